/-! the law's model: the whole text, fault, told -/
def rdMl : List Nat := [6, 7, 8, 9, 10, 11, 12]
def chF (d d' : xD) : Prop := chg [240, 245] d d' ∧ ∀ q, q ∉ rdMl → d'.1 240 q = d.1 240 q
theorem chF.rf {d : xD} : chF d d := ⟨chg.rf, fun _ _ => rfl⟩
theorem chF.tr {d d' d'' : xD} (h : chF d d') (h' : chF d' d'') : chF d d'' := ⟨h.1.tr h'.1, fun q hq => (h'.2 q hq).trans (h.2 q hq)⟩
theorem chR.toF {F : List Nat} {a : Nat} {d d' : xD} (h : chR F a d d') (hF : ∀ o ∈ F, o ∈ rdMl) : chF d d' := ⟨h.1, fun q hq => h.2.1 q (fun z => hq (hF q z))⟩
theorem chF.fld {d d' : xD} {k : Nat} {x : Int32} (h : chF d d') (hk : k ∈ rdMl) : chF d (seI d' 240 k x) := ⟨h.1.se (by simp), fun q hq => (se_n _ _ (fun e => hq (by rw [e]; exact hk))).trans (h.2 q hq)⟩
theorem moTx.rf' {d d' : xD} {bs : List Nat} (h : moTx d bs) (hc : chF d d') : moTx d' bs := ⟨(hc.2 4 (by decide)).trans h.1, h.2.1, fun i hi => by rw [(hc.1 244 (by decide)).1]; exact h.2.2 i hi⟩
theorem mLine.rd {bs : List Nat} {d d' : xD} {a : Nat} {t : Nat × Nat × Nat × Nat} (h : mLine bs d a t) (h1 : ∀ q, a ≤ q → q < a + 4 → d'.1 245 q = d.1 245 q) : mLine bs d' a t := by
  obtain ⟨a1, a2, a3, a4⟩ := h
  refine ⟨(h1 a (by omega) (by omega)).trans a1, fun z => ?_, fun z => (h1 (a + 1) (by omega) (by omega)).trans (a3 z), fun z => ⟨(h1 (a + 2) (by omega) (by omega)).trans (a4 z).1, (h1 (a + 3) (by omega) (by omega)).trans (a4 z).2⟩⟩
  obtain ⟨p, b1, b2⟩ := a2 z
  exact ⟨p, (h1 (a + 1) (by omega) (by omega)).trans b1, b2⟩
theorem kd3_iff {bs : List Nat} {p : Nat} (hp : p ≤ bs.length) : (tkE bs p - p = 1 ∧ bs.getD p 0 = 59) ↔ kdF bs p = 3 := by
  have hE := tkE_le hp
  constructor
  · rintro ⟨h1, h2⟩
    rw [kdF_at (by omega), h2]; decide
  · intro h
    have hlt : p < bs.length := kdF_len (by omega)
    have h59 : bs.getD p 0 = 59 := kdB_3.mp (by rw [← kdF_at hlt]; exact h)
    refine ⟨?_, h59⟩
    unfold tkE
    rw [if_pos hlt, h59, if_neg (by decide), if_neg (by decide)]
    omega
theorem kd0_iff {bs : List Nat} {p : Nat} (hp : p ≤ bs.length) : tkE bs p - p = 0 ↔ kdF bs p = 0 := by
  constructor
  · intro h
    refine if_neg (fun z => ?_)
    have := tkE_gt z
    omega
  · intro h
    have hn : ¬ p < bs.length := fun z => by
      rw [kdF_at z] at h
      have := kdB_le (bs.getD p 0)
      omega
    unfold tkE
    rw [if_neg hn, Nat.sub_self]
theorem nxk_le {bs : List Nat} {kn : Nat} {t : Nat × Nat × Nat × Nat} (h : okL bs kn t) (hk : kn ≤ 6) : nxk kn t ≤ 6 := by
  unfold nxk
  rcases h with ⟨a, b, h1 | h1, -⟩ | ⟨n, h1, h2, h3⟩ | ⟨hn, p, q, h1, -⟩
  · subst h1; exact hk
  · subst h1; exact hk
  · subst h1; exact h3
  · subst h1; exact hk
section MOD
variable {l : Launch} {W : xW} {dep : Nat} {d : xD} {bs : List Nat} {σ : St} {x y z w : Int32} {n n2 n3 k a kn : Nat} {fb : Nat → Nat}
theorem s_X12_isRead (h : moTx d bs) (hkn : d.1 240 0 = nI kn) (hk6 : kn ≤ 6) : mSpecI l W mX12_isRead (dep + 5) [.ref (xad W 240)] d (fun r d' => (((rdF bs 16 0 0 kn []).1 = none ∧ r = 1 ∧ d'.1 240 12 = nI (rdF bs 16 0 0 kn []).2.length ∧ (rdF bs 16 0 0 kn []).2.length ≤ 16 ∧ ∀ i t, (rdF bs 16 0 0 kn []).2[i]? = some t → mLine bs d' (4 * i) t) ∨ (∃ z, (rdF bs 16 0 0 kn []).1 = some z ∧ r = 0 ∧ d'.1 240 10 = nI z)) ∧ chF d d') := by
  have h160 := h.2.1
  refine m_spec RX12 [some (.ref (xad W 240)), none] rfl (by decide +kernel) rfl rfl (fun K hR => ?_)
  generalize hRF : rdF bs 16 0 0 kn [] = RF at *
  -- the end
  have fin0 : ∀ d1 z p q, RF.1 = some z → tokI d1 p q (kdF bs p) → kdF bs p ≠ 0 → z = p → chF d d1 → mG W K cX12_isRead RX12 (dep + 5) d1 20 [some (.ref (xad W 240)), some (.int (nI 0))] [] := fun d1 z p q g1 g2 g3 g4 g5 => by
    have hkl := kdF_le bs p
    refine m_iload_n dX12_isRead_20 rfl ?_
    first | refine m_if_eqN 79 dX12_isRead_21 (by decide) (by omega) (fun c21 => ?_) (fun c21 => by exfalso; exact c21 rfl) | refine m_if_eq 79 dX12_isRead_21 (by decide) (fun c21 => ?_) (fun c21 => by exfalso; exact c21 rfl)
    refine m_aload_n dX12_isRead_79 rfl ?_
    refine m_get fl_X12_102 (by decide) rfl rfl dX12_isRead_80 ?_
    refine m_eqi (g2.2.2.1) ?_
    first | refine m_if_eqN 93 dX12_isRead_83 (by decide) (by omega) (fun c83 => by exfalso; omega) (fun c83 => ?_) | refine m_if_eq 93 dX12_isRead_83 (by decide) (fun c83 => by exfalso; omega) (fun c83 => ?_)
    refine m_aload_n dX12_isRead_86 rfl ?_
    refine m_callVI (s_X12_fails g2.2.1) cv_X12_118 dX12_isRead_87 (fun r87 d87 h87 => ?_)
    obtain ⟨rfl, rfl⟩ := h87
    refine m_if_eq 97 dX12_isRead_90 (by decide) (fun c90 => ?_) (fun c90 => by exfalso; exact c90 rfl)
    refine m_iconstN 0 dX12_isRead_97 (by decide) ?_
    exact m_iret (ty := .boolean) hR dX12_isRead_98 (⟨Or.inr ⟨z, g1, rfl, by rw [g4]; exact se_s _ _ _ _⟩, g5.fld (by decide)⟩)
  have fin1 : ∀ d1 p q, RF.1 = none → tokI d1 p q (kdF bs p) → kdF bs p = 0 → d1.1 240 12 = nI RF.2.length → RF.2.length ≤ 16 → (∀ i t, RF.2[i]? = some t → mLine bs d1 (4 * i) t) → chF d d1 → mG W K cX12_isRead RX12 (dep + 5) d1 20 [some (.ref (xad W 240)), some (.int (nI 0))] [] := fun d1 p q g1 g2 g3 g4 g5 g6 g7 => by
    rw [g3] at g2
    refine m_iload_n dX12_isRead_20 rfl ?_
    first | refine m_if_eqN 79 dX12_isRead_21 (by decide) (by omega) (fun c21 => ?_) (fun c21 => by exfalso; exact c21 rfl) | refine m_if_eq 79 dX12_isRead_21 (by decide) (fun c21 => ?_) (fun c21 => by exfalso; exact c21 rfl)
    refine m_aload_n dX12_isRead_79 rfl ?_
    refine m_get fl_X12_102 (by decide) rfl rfl dX12_isRead_80 ?_
    refine m_eqi (g2.2.2.1) ?_
    first | refine m_if_eqN 93 dX12_isRead_83 (by decide) (by omega) (fun c83 => ?_) (fun c83 => by exfalso; exact c83 rfl) | refine m_if_eq 93 dX12_isRead_83 (by decide) (fun c83 => ?_) (fun c83 => by exfalso; exact c83 rfl)
    refine m_iconstN 1 dX12_isRead_93 (by decide) ?_
    refine m_goto 98 dX12_isRead_94 (by decide) ?_
    exact m_iret (ty := .boolean) hR dX12_isRead_98 (⟨Or.inl ⟨g1, rfl, g4, g5, g6⟩, g7⟩)
  have loop : ∀ N (ls : List (Nat × Nat × Nat × Nat)) s e kn1 d1, 16 - ls.length = N → ls.length < 16 → RF = rdF bs (16 - ls.length) s e kn1 ls → e ≤ bs.length → kn1 ≤ 6 → d1.1 240 12 = nI ls.length → d1.1 240 6 = nI e → d1.1 240 11 = nI kn1 → (∀ i t, ls[i]? = some t → mLine bs d1 (4 * i) t) → chF d d1 → mG W K cX12_isRead RX12 (dep + 5) d1 20 [some (.ref (xad W 240)), some (.int (nI 1))] [] := by
    intro N
    induction N with
    | zero => intro ls s e kn1 d1 hN hl; omega
    | succ N ihN =>
    intro ls s e kn1 d1 hN hl heq he hk1 g1 g2 g3 g4 g5
    have htx := h.rf' g5
    rw [show 16 - ls.length = (16 - (ls.length + 1)) + 1 by omega] at heq
    unfold rdF at heq
    cases hRL : (rdLine bs e kn1).1 with
    | none =>
      rw [hRL] at heq
      refine m_iload_n dX12_isRead_20 rfl ?_
      first | refine m_if_eqN 79 dX12_isRead_21 (by decide) (by omega) (fun c21 => by exfalso; exact absurd c21 (by decide)) (fun c21 => ?_) | refine m_if_eq 79 dX12_isRead_21 (by decide) (fun c21 => by exfalso; exact absurd c21 (by decide)) (fun c21 => ?_)
      refine m_aload_n dX12_isRead_24 rfl ?_
      refine m_iconstN 4 dX12_isRead_25 (by decide) ?_
      refine m_aload_n dX12_isRead_26 rfl ?_
      refine m_get fl_X12_147 (by decide) rfl rfl dX12_isRead_27 ?_
      refine m_eqi (g1) ?_
      first | refine m_imulN dX12_isRead_30 ?_ | refine m_imul dX12_isRead_30 ?_
      refine m_callVI (s_X12_isLine htx g2 he g3 hk1 hl) cv_X12_150 dX12_isRead_31 (fun r31 d31 h31 => ?_)
      obtain ⟨h31, h32⟩ := h31
      obtain ⟨rfl, -, h33⟩ := h31.resolve_left (fun z => by obtain ⟨t, ht, -⟩ := z.2.1; rw [hRL] at ht; cases ht)
      refine m_if_ne 39 dX12_isRead_34 (by decide) (fun c34 => by exfalso; exact c34 rfl) (fun c34 => ?_)
      refine m_iconstN 0 dX12_isRead_37 (by decide) ?_
      exact m_iret (ty := .boolean) hR dX12_isRead_38 (⟨Or.inr ⟨_, by rw [heq], rfl, h33⟩, g5.tr (h32.toF (by decide))⟩)
    | some t =>
      rw [hRL] at heq
      dsimp only at heq
      obtain ⟨hok, hkeq⟩ := rdLine_ok he hRL
      have hk2 : (rdLine bs e kn1).2.2.2 ≤ 6 := by rw [hkeq]; exact nxk_le hok hk1
      have he2 := rdLine_le (kn := kn1) he
      have hp2 := tkS_le he2
      have hE2 := tkE_le hp2
      have h0 := kd0_iff hp2
      have h3 := kd3_iff hp2
      have hkl := kdF_le bs (tkS bs (rdLine bs e kn1).2.2.1)
      -- behind the line
      have after : ∀ d3, d3.1 240 12 = nI (ls.length + 1) → tokI d3 (tkS bs (rdLine bs e kn1).2.2.1) (tkE bs (tkS bs (rdLine bs e kn1).2.2.1)) (kdF bs (tkS bs (rdLine bs e kn1).2.2.1)) → d3.1 240 11 = nI (rdLine bs e kn1).2.2.2 → (∀ i t', (ls ++ [t])[i]? = some t' → mLine bs d3 (4 * i) t') → chF d d3 → mG W K cX12_isRead RX12 (dep + 5) d3 53 [some (.ref (xad W 240)), some (.int (nI 1))] [] := fun d3 q1 q2 q3 q4 q5 => by
        generalize tkS bs (rdLine bs e kn1).2.2.1 = p at *
        generalize (rdLine bs e kn1).2.2.2 = kn2 at *
        by_cases k0 : kdF bs p = 0
        · rw [if_pos (h0.mpr k0)] at heq
          refine m_aload_n dX12_isRead_53 rfl ?_
          refine m_get fl_X12_102 (by decide) rfl rfl dX12_isRead_54 ?_
          refine m_eqi (q2.2.2.1) ?_
          refine m_iconstN 3 dX12_isRead_57 (by decide) ?_
          first | refine m_icmp_neN 74 dX12_isRead_58 (by decide) (by omega) (by omega) (fun c58 => ?_) (fun c58 => by exfalso; omega) | refine m_icmp_ne 74 dX12_isRead_58 (by decide) (fun c58 => ?_) (fun c58 => by exfalso; omega)
          refine m_iconstN 0 dX12_isRead_74 (by decide) ?_
          refine m_istore_n dX12_isRead_75 (Nat.le_of_ble_eq_true rfl) rfl ?_
          refine m_goto 20 dX12_isRead_76 (by decide) ?_
          exact fin1 d3 p _ (by rw [heq]) q2 k0 (by rw [heq, List.length_append]; exact q1) (by rw [heq, List.length_append, List.length_singleton]; omega) (by rw [heq]; exact q4) q5
        · rw [if_neg (fun z => k0 (h0.mp z))] at heq
          by_cases k3 : kdF bs p = 3
          · rw [if_pos (h3.mpr k3)] at heq
            by_cases hl2 : ls.length + 1 < 16
            · have hlen2 : (ls ++ [t]).length = ls.length + 1 := by rw [List.length_append]; rfl
              refine m_aload_n dX12_isRead_53 rfl ?_
              refine m_get fl_X12_102 (by decide) rfl rfl dX12_isRead_54 ?_
              refine m_eqi (q2.2.2.1) ?_
              refine m_iconstN 3 dX12_isRead_57 (by decide) ?_
              first | refine m_icmp_neN 74 dX12_isRead_58 (by decide) (by omega) (by omega) (fun c58 => by exfalso; omega) (fun c58 => ?_) | refine m_icmp_ne 74 dX12_isRead_58 (by decide) (fun c58 => by exfalso; omega) (fun c58 => ?_)
              refine m_aload_n dX12_isRead_61 rfl ?_
              refine m_get fl_X12_147 (by decide) rfl rfl dX12_isRead_62 ?_
              refine m_eqi (q1) ?_
              refine m_bipushN 16 dX12_isRead_65 (by decide) ?_
              first | refine m_icmp_geN 74 dX12_isRead_67 (by decide) (by omega) (by omega) (fun c67 => by exfalso; omega) (fun c67 => ?_) | refine m_icmp_ge 74 dX12_isRead_67 (by decide) (fun c67 => by exfalso; omega) (fun c67 => ?_)
              refine m_iconstN 1 dX12_isRead_70 (by decide) ?_
              refine m_goto 75 dX12_isRead_71 (by decide) ?_
              refine m_istore_n dX12_isRead_75 (Nat.le_of_ble_eq_true rfl) rfl ?_
              refine m_goto 20 dX12_isRead_76 (by decide) ?_
              exact ihN (ls ++ [t]) p (tkE bs p) kn2 d3 (by rw [hlen2]; omega) (by rw [hlen2]; exact hl2) (by rw [hlen2]; exact heq) hE2.2 hk2 (by rw [hlen2]; exact q1) q2.1 q3 q4 q5
            · rw [show 16 - (ls.length + 1) = 0 by omega] at heq
              refine m_aload_n dX12_isRead_53 rfl ?_
              refine m_get fl_X12_102 (by decide) rfl rfl dX12_isRead_54 ?_
              refine m_eqi (q2.2.2.1) ?_
              refine m_iconstN 3 dX12_isRead_57 (by decide) ?_
              first | refine m_icmp_neN 74 dX12_isRead_58 (by decide) (by omega) (by omega) (fun c58 => by exfalso; omega) (fun c58 => ?_) | refine m_icmp_ne 74 dX12_isRead_58 (by decide) (fun c58 => by exfalso; omega) (fun c58 => ?_)
              refine m_aload_n dX12_isRead_61 rfl ?_
              refine m_get fl_X12_147 (by decide) rfl rfl dX12_isRead_62 ?_
              refine m_eqi (q1) ?_
              refine m_bipushN 16 dX12_isRead_65 (by decide) ?_
              first | refine m_icmp_geN 74 dX12_isRead_67 (by decide) (by omega) (by omega) (fun c67 => ?_) (fun c67 => by exfalso; omega) | refine m_icmp_ge 74 dX12_isRead_67 (by decide) (fun c67 => ?_) (fun c67 => by exfalso; omega)
              refine m_iconstN 0 dX12_isRead_74 (by decide) ?_
              refine m_istore_n dX12_isRead_75 (Nat.le_of_ble_eq_true rfl) rfl ?_
              refine m_goto 20 dX12_isRead_76 (by decide) ?_
              exact fin0 d3 p p _ (by rw [heq]; rfl) q2 k0 rfl q5
          · rw [if_neg (fun z => k3 (h3.mp z))] at heq
            refine m_aload_n dX12_isRead_53 rfl ?_
            refine m_get fl_X12_102 (by decide) rfl rfl dX12_isRead_54 ?_
            refine m_eqi (q2.2.2.1) ?_
            refine m_iconstN 3 dX12_isRead_57 (by decide) ?_
            first | refine m_icmp_neN 74 dX12_isRead_58 (by decide) (by omega) (by omega) (fun c58 => ?_) (fun c58 => by exfalso; omega) | refine m_icmp_ne 74 dX12_isRead_58 (by decide) (fun c58 => ?_) (fun c58 => by exfalso; omega)
            refine m_iconstN 0 dX12_isRead_74 (by decide) ?_
            refine m_istore_n dX12_isRead_75 (Nat.le_of_ble_eq_true rfl) rfl ?_
            refine m_goto 20 dX12_isRead_76 (by decide) ?_
            exact fin0 d3 p p _ (by rw [heq]) q2 k0 rfl q5
      refine m_iload_n dX12_isRead_20 rfl ?_
      first | refine m_if_eqN 79 dX12_isRead_21 (by decide) (by omega) (fun c21 => by exfalso; exact absurd c21 (by decide)) (fun c21 => ?_) | refine m_if_eq 79 dX12_isRead_21 (by decide) (fun c21 => by exfalso; exact absurd c21 (by decide)) (fun c21 => ?_)
      refine m_aload_n dX12_isRead_24 rfl ?_
      refine m_iconstN 4 dX12_isRead_25 (by decide) ?_
      refine m_aload_n dX12_isRead_26 rfl ?_
      refine m_get fl_X12_147 (by decide) rfl rfl dX12_isRead_27 ?_
      refine m_eqi (g1) ?_
      first | refine m_imulN dX12_isRead_30 ?_ | refine m_imul dX12_isRead_30 ?_
      refine m_callVI (s_X12_isLine htx g2 he g3 hk1 hl) cv_X12_150 dX12_isRead_31 (fun r31 d31 h31 => ?_)
      obtain ⟨h31, h32⟩ := h31
      obtain ⟨rfl, ⟨t', ht', h34⟩, h35, h36⟩ := h31.resolve_right (fun z => by rw [hRL] at z; exact absurd z.2.1 (by simp))
      rw [hRL] at ht'
      cases ht'
      have h37 : d31.1 240 12 = nI ls.length := (h32.2.1 12 (by decide)).trans g1
      refine m_if_ne 39 dX12_isRead_34 (by decide) (fun c34 => ?_) (fun c34 => by exfalso; exact c34 (by decide))
      refine m_aload_n dX12_isRead_39 rfl ?_
      refine m_dup dX12_isRead_40 rfl ?_
      refine m_get fl_X12_147 (by decide) rfl rfl dX12_isRead_41 ?_
      refine m_eqi (h37) ?_
      refine m_iconstN 1 dX12_isRead_44 (by decide) ?_
      first | refine m_iaddN dX12_isRead_45 ?_ | refine m_iadd dX12_isRead_45 ?_
      refine m_put fl_X12_147 (by decide) rfl (Nat.le_of_ble_eq_true rfl) rfl dX12_isRead_46 ?_
      refine m_aload_n dX12_isRead_49 rfl ?_
      refine m_callVV (s_X12_nextToken ((htx.rd h32 (by decide)).rf' (chF.rf.fld (k := 12) (x := nI (ls.length + 1)) (by decide))) (se_e2 h35 (by decide)) he2 64) cv_X12_115 dX12_isRead_50 (fun d50 h50 => ?_)
      refine after d50 ((h50.2.2.1 12 (by decide)).trans (se_s _ _ _ _)) h50.1 ((h50.2.2.1 11 (by decide)).trans (se_e2 h36 (by decide))) (fun i t' hi => ?_) ((g5.tr (h32.toF (by decide))).tr ((chF.rf.fld (k := 12) (x := nI (ls.length + 1)) (by decide)).tr (h50.2.toF (by decide))))
      have hi2 := (List.getElem?_eq_some_iff.mp hi).1
      rw [List.length_append, List.length_singleton] at hi2
      have hm : mLine bs d31 (4 * i) t' := by
        by_cases e9 : i = ls.length
        · subst e9
          rw [List.getElem?_append_right (Nat.le_refl _), Nat.sub_self] at hi
          cases hi
          exact h34
        · rw [List.getElem?_append_left (by omega)] at hi
          exact (g4 i t' hi).rd (fun q a1 a2 => h32.2.2 q (by omega) (Or.inl (by omega)))
      exact hm.rd (fun q a1 a2 => (h50.2.2.2 q (by omega) (Or.inl (by omega))).trans (se_e rfl (by decide)))
  refine m_aload_n dX12_isRead_0 rfl ?_
  refine m_iconstN 0 dX12_isRead_1 (by decide) ?_
  refine m_put fl_X12_92 (by decide) rfl (Nat.le_of_ble_eq_true rfl) rfl dX12_isRead_2 ?_
  refine m_aload_n dX12_isRead_5 rfl ?_
  refine m_iconstN 0 dX12_isRead_6 (by decide) ?_
  refine m_put fl_X12_147 (by decide) rfl (Nat.le_of_ble_eq_true rfl) rfl dX12_isRead_7 ?_
  refine m_aload_n dX12_isRead_10 rfl ?_
  refine m_aload_n dX12_isRead_11 rfl ?_
  refine m_get fl_X12_7 (by decide) rfl rfl dX12_isRead_12 ?_
  refine m_eqi ((se_e2 (se_e2 hkn (by decide)) (by decide) : _ = nI kn)) ?_
  refine m_put fl_X12_122 (by decide) rfl (Nat.le_of_ble_eq_true rfl) rfl dX12_isRead_15 ?_
  refine m_iconstN 1 dX12_isRead_18 (by decide) ?_
  refine m_istore_n dX12_isRead_19 (Nat.le_of_ble_eq_true rfl) rfl ?_
  exact loop 16 [] 0 0 kn _ rfl (by decide) hRF.symm (Nat.zero_le _) hk6 (se_e2 (se_s _ _ _ _) (by decide)) (se_e2 (se_e2 (se_s _ _ _ _) (by decide)) (by decide)) (se_s _ _ _ _) (fun i t hi => by cases hi) (((chF.rf.fld (by decide)).fld (by decide)).fld (by decide))
theorem s_X12_fault (hl : moLet d k fb) (h : moTx d bs) : mSpecI l W mX12_fault (dep + 6) [.ref (xad W 240)] d (fun r d' => r = rdA (rdF bs 16 0 0 k []).1 ∧ chF d d') := by
  have hk6 := hl.2.2.2.1
  have h160 := h.2.1
  refine m_spec RX12 [some (.ref (xad W 240))] rfl (by decide +kernel) rfl rfl (fun K hR => ?_)
  cases hF : (rdF bs 16 0 0 k []).1 with
  | none =>
    refine m_aload_n dX12_fault_0 rfl ?_
    refine m_callVI (s_X12_isRead h hl.1 hk6) cv_X12_154 dX12_fault_1 (fun r1 d1 h1 => ?_)
    obtain ⟨h1, h2⟩ := h1
    obtain ⟨-, rfl, -⟩ := h1.resolve_right (fun z => by obtain ⟨z, hz, -⟩ := z; rw [hF] at hz; cases hz)
    refine m_if_eq 11 dX12_fault_4 (by decide) (fun c4 => by exfalso; exact absurd c4 (by decide)) (fun c4 => ?_)
    refine m_iconst (v := -1) dX12_fault_7 (by decide) ?_
    refine m_goto 15 dX12_fault_8 (by decide) ?_
    exact m_iret (ty := .int) hR dX12_fault_15 (⟨by rw [hF]; rfl, h2⟩)
  | some z =>
    refine m_aload_n dX12_fault_0 rfl ?_
    refine m_callVI (s_X12_isRead h hl.1 hk6) cv_X12_154 dX12_fault_1 (fun r1 d1 h1 => ?_)
    obtain ⟨h1, h2⟩ := h1
    obtain ⟨z', hz, rfl, h3⟩ := h1.resolve_left (fun z => by rw [hF] at z; exact absurd z.1 (by simp))
    rw [hF] at hz
    cases hz
    refine m_if_eq 11 dX12_fault_4 (by decide) (fun c4 => ?_) (fun c4 => by exfalso; exact c4 rfl)
    refine m_aload_n dX12_fault_11 rfl ?_
    refine m_get fl_X12_108 (by decide) rfl rfl dX12_fault_12 ?_
    refine m_eqi (h3) ?_
    exact m_iret (ty := .int) hR dX12_fault_15 (⟨by rw [hF]; rfl, h2⟩)
theorem fbOk_0 {n : Nat} (h1 : 1 ≤ n) (h6 : n ≤ 6) : fbOk n (fun _ => 0) := ⟨h1, h6, fun p _ => Nat.two_pow_pos n, fun p q _ _ => by rw [Nat.zero_testBit, Nat.zero_testBit], fun p _ => Nat.zero_testBit p⟩
def moDC : List Nat := [240, 241, 242, 243]
theorem s_X12_doLine {j : Nat} {t : Nat × Nat × Nat × Nat} (hs : moSt d σ) (h : moTx d bs) (hj : j < 16) (hli : mLine bs d (4 * j) t) (hok : okL bs σ.1 t) : mSpecV l W mX12_doLine (dep + 1) [.ref (xad W 240), .int (nI (4 * j))] d (fun d' => moSt d' (doF bs σ t) ∧ (∀ q, q ≠ 0 → d'.1 240 q = d.1 240 q) ∧ chg moDC d d') := by
  have hk := hs.1.2.2.2.1
  have h160 := h.2.1
  obtain ⟨a1, a2, a3, a4⟩ := hli
  refine m_spec RX12 [some (.ref (xad W 240)), some (.int (nI (4 * j))), none, none] rfl (by decide +kernel) rfl rfl (fun K hR => ?_)
  rcases hok with ⟨a, b, ht, q1, q2, q3⟩ | ⟨n, ht, q1, q2⟩ | ⟨hn, p, q, ht, q1, q2, q3, q4, q5⟩
  · rcases ht with ht | ht
    · subst ht
      obtain ⟨p, p1, p2, p3, p4, p5, p6⟩ := a2 (show (0 : Nat) < 2 by decide)
      have b1 := h.2.2 p (by omega)
      have b2 := h.2.2 (p + 1) (by omega)
      have b19 := b1.2
      have b29 := b2.2
      refine m_aload_n dX12_doLine_0 rfl ?_
      refine m_get fl_X12_26 (by decide) rfl rfl dX12_doLine_1 ?_
      refine m_iload_n dX12_doLine_4 rfl ?_
      refine m_iconstN 1 dX12_doLine_5 (by decide) ?_
      first | refine m_iaddN dX12_doLine_6 ?_ | refine m_iadd dX12_doLine_6 ?_
      refine m_iald (by first | exact ⟨by decide, by decide, fun _ => rfl⟩ | exact isI_arr _ (by omega) | exact isI_mv _ (by omega) | exact isI_ne _ (by omega)) (by omega) dX12_doLine_7 ?_
      refine m_eqi (p1) ?_
      refine m_istore_n dX12_doLine_8 (Nat.le_of_ble_eq_true rfl) rfl ?_
      refine m_aload_n dX12_doLine_9 rfl ?_
      refine m_get fl_X12_26 (by decide) rfl rfl dX12_doLine_10 ?_
      refine m_iload_n dX12_doLine_13 rfl ?_
      refine m_iald (by first | exact ⟨by decide, by decide, fun _ => rfl⟩ | exact isI_arr _ (by omega) | exact isI_mv _ (by omega) | exact isI_ne _ (by omega)) (by omega) dX12_doLine_14 ?_
      refine m_eqi ((a1 : _ = nI 0)) ?_
      refine m_iconstN 2 dX12_doLine_15 (by decide) ?_
      first | refine m_icmp_geN 60 dX12_doLine_16 (by decide) (by omega) (by omega) (fun c16 => by exfalso; omega) (fun c16 => ?_) | refine m_icmp_ge 60 dX12_doLine_16 (by decide) (fun c16 => by exfalso; omega) (fun c16 => ?_)
      refine m_aload_n dX12_doLine_19 rfl ?_
      refine m_aload_n dX12_doLine_20 rfl ?_
      refine m_get fl_X12_23 (by decide) rfl rfl dX12_doLine_21 ?_
      refine m_iload_n dX12_doLine_24 rfl ?_
      refine m_iald (by first | exact ⟨by decide, by decide, fun _ => rfl⟩ | exact isI_arr _ (by omega) | exact isI_mv _ (by omega) | exact isI_ne _ (by omega)) (by omega) dX12_doLine_25 ?_
      refine m_eqi (b1.1) ?_
      refine m_bipushN 97 dX12_doLine_26 (by decide) ?_
      first | refine m_isubN dX12_doLine_28 (by omega) ?_ | refine m_isub dX12_doLine_28 ?_
      refine m_eqi ((by rw [p5] : _ = nI a)) ?_
      refine m_aload_n dX12_doLine_29 rfl ?_
      refine m_get fl_X12_23 (by decide) rfl rfl dX12_doLine_30 ?_
      refine m_iload_n dX12_doLine_33 rfl ?_
      refine m_iconstN 1 dX12_doLine_34 (by decide) ?_
      first | refine m_iaddN dX12_doLine_35 ?_ | refine m_iadd dX12_doLine_35 ?_
      refine m_iald (by first | exact ⟨by decide, by decide, fun _ => rfl⟩ | exact isI_arr _ (by omega) | exact isI_mv _ (by omega) | exact isI_ne _ (by omega)) (by omega) dX12_doLine_36 ?_
      refine m_eqi (b2.1) ?_
      refine m_bipushN 97 dX12_doLine_37 (by decide) ?_
      first | refine m_isubN dX12_doLine_39 (by omega) ?_ | refine m_isub dX12_doLine_39 ?_
      refine m_eqi ((by rw [p6] : _ = nI b)) ?_
      refine m_aload_n dX12_doLine_40 rfl ?_
      refine m_get fl_X12_26 (by decide) rfl rfl dX12_doLine_41 ?_
      refine m_iload_n dX12_doLine_44 rfl ?_
      refine m_iald (by first | exact ⟨by decide, by decide, fun _ => rfl⟩ | exact isI_arr _ (by omega) | exact isI_mv _ (by omega) | exact isI_ne _ (by omega)) (by omega) dX12_doLine_45 ?_
      refine m_eqi ((a1 : _ = nI 0)) ?_
      first | refine m_if_neN 53 dX12_doLine_46 (by decide) (by omega) (fun c46 => by exfalso; exact c46 rfl) (fun c46 => ?_) | refine m_if_ne 53 dX12_doLine_46 (by decide) (fun c46 => by exfalso; exact c46 rfl) (fun c46 => ?_)
      refine m_iconstN 1 dX12_doLine_49 (by decide) ?_
      refine m_goto 54 dX12_doLine_50 (by decide) ?_
      refine m_callVV (s_X12_tell (v := true) hs.1 q1 q2 q3) cv_X12_157 dX12_doLine_54 (fun d54 h54 => ?_)
      refine m_goto 180 dX12_doLine_57 (by decide) ?_
      exact m_vret hR dX12_doLine_180 (⟨⟨h54.1, hs.2.fr h54.2 (by simp) (by simp)⟩, fun q hq => by rw [(h54.2 240 (by simp)).1], h54.2.mono (by decide)⟩)
    · subst ht
      obtain ⟨p, p1, p2, p3, p4, p5, p6⟩ := a2 (show (1 : Nat) < 2 by decide)
      have b1 := h.2.2 p (by omega)
      have b2 := h.2.2 (p + 1) (by omega)
      have b19 := b1.2
      have b29 := b2.2
      refine m_aload_n dX12_doLine_0 rfl ?_
      refine m_get fl_X12_26 (by decide) rfl rfl dX12_doLine_1 ?_
      refine m_iload_n dX12_doLine_4 rfl ?_
      refine m_iconstN 1 dX12_doLine_5 (by decide) ?_
      first | refine m_iaddN dX12_doLine_6 ?_ | refine m_iadd dX12_doLine_6 ?_
      refine m_iald (by first | exact ⟨by decide, by decide, fun _ => rfl⟩ | exact isI_arr _ (by omega) | exact isI_mv _ (by omega) | exact isI_ne _ (by omega)) (by omega) dX12_doLine_7 ?_
      refine m_eqi (p1) ?_
      refine m_istore_n dX12_doLine_8 (Nat.le_of_ble_eq_true rfl) rfl ?_
      refine m_aload_n dX12_doLine_9 rfl ?_
      refine m_get fl_X12_26 (by decide) rfl rfl dX12_doLine_10 ?_
      refine m_iload_n dX12_doLine_13 rfl ?_
      refine m_iald (by first | exact ⟨by decide, by decide, fun _ => rfl⟩ | exact isI_arr _ (by omega) | exact isI_mv _ (by omega) | exact isI_ne _ (by omega)) (by omega) dX12_doLine_14 ?_
      refine m_eqi ((a1 : _ = nI 1)) ?_
      refine m_iconstN 2 dX12_doLine_15 (by decide) ?_
      first | refine m_icmp_geN 60 dX12_doLine_16 (by decide) (by omega) (by omega) (fun c16 => by exfalso; omega) (fun c16 => ?_) | refine m_icmp_ge 60 dX12_doLine_16 (by decide) (fun c16 => by exfalso; omega) (fun c16 => ?_)
      refine m_aload_n dX12_doLine_19 rfl ?_
      refine m_aload_n dX12_doLine_20 rfl ?_
      refine m_get fl_X12_23 (by decide) rfl rfl dX12_doLine_21 ?_
      refine m_iload_n dX12_doLine_24 rfl ?_
      refine m_iald (by first | exact ⟨by decide, by decide, fun _ => rfl⟩ | exact isI_arr _ (by omega) | exact isI_mv _ (by omega) | exact isI_ne _ (by omega)) (by omega) dX12_doLine_25 ?_
      refine m_eqi (b1.1) ?_
      refine m_bipushN 97 dX12_doLine_26 (by decide) ?_
      first | refine m_isubN dX12_doLine_28 (by omega) ?_ | refine m_isub dX12_doLine_28 ?_
      refine m_eqi ((by rw [p5] : _ = nI a)) ?_
      refine m_aload_n dX12_doLine_29 rfl ?_
      refine m_get fl_X12_23 (by decide) rfl rfl dX12_doLine_30 ?_
      refine m_iload_n dX12_doLine_33 rfl ?_
      refine m_iconstN 1 dX12_doLine_34 (by decide) ?_
      first | refine m_iaddN dX12_doLine_35 ?_ | refine m_iadd dX12_doLine_35 ?_
      refine m_iald (by first | exact ⟨by decide, by decide, fun _ => rfl⟩ | exact isI_arr _ (by omega) | exact isI_mv _ (by omega) | exact isI_ne _ (by omega)) (by omega) dX12_doLine_36 ?_
      refine m_eqi (b2.1) ?_
      refine m_bipushN 97 dX12_doLine_37 (by decide) ?_
      first | refine m_isubN dX12_doLine_39 (by omega) ?_ | refine m_isub dX12_doLine_39 ?_
      refine m_eqi ((by rw [p6] : _ = nI b)) ?_
      refine m_aload_n dX12_doLine_40 rfl ?_
      refine m_get fl_X12_26 (by decide) rfl rfl dX12_doLine_41 ?_
      refine m_iload_n dX12_doLine_44 rfl ?_
      refine m_iald (by first | exact ⟨by decide, by decide, fun _ => rfl⟩ | exact isI_arr _ (by omega) | exact isI_mv _ (by omega) | exact isI_ne _ (by omega)) (by omega) dX12_doLine_45 ?_
      refine m_eqi ((a1 : _ = nI 1)) ?_
      first | refine m_if_neN 53 dX12_doLine_46 (by decide) (by omega) (fun c46 => ?_) (fun c46 => by exfalso; omega) | refine m_if_ne 53 dX12_doLine_46 (by decide) (fun c46 => ?_) (fun c46 => by exfalso; omega)
      refine m_iconstN 0 dX12_doLine_53 (by decide) ?_
      refine m_callVV (s_X12_tell (v := false) hs.1 q1 q2 q3) cv_X12_157 dX12_doLine_54 (fun d54 h54 => ?_)
      refine m_goto 180 dX12_doLine_57 (by decide) ?_
      exact m_vret hR dX12_doLine_180 (⟨⟨h54.1, hs.2.fr h54.2 (by simp) (by simp)⟩, fun q hq => by rw [(h54.2 240 (by simp)).1], h54.2.mono (by decide)⟩)
  · subst ht
    have a5 := a3 (show 2 ≤ (2 : Nat) by decide)
    have loop2 : ∀ i, i ≤ 4 → ∀ d1, d1.1 240 0 = nI n → (∀ p, p < 6 → d1.1 241 p = nI 0) → (∀ p, p < i → d1.1 242 p = nI 0) → (∀ q, q ≠ 0 → d1.1 240 q = d.1 240 q) → chg moDC d d1 → mG W K cX12_doLine RX12 (dep + 1) d1 98 [some (.ref (xad W 240)), some (.int (nI (4 * j))), some (.int (nI n)), some (.int (nI i))] [] := x_up _ (fun i hi ih d1 g1 g2 g3 g4 g5 => by
      by_cases hin : i < 4
      · skip
        refine m_iload_n dX12_doLine_98 rfl ?_
        refine m_iconstN 4 dX12_doLine_99 (by decide) ?_
        first | refine m_icmp_geN 116 dX12_doLine_100 (by decide) (by omega) (by omega) (fun c100 => by exfalso; omega) (fun c100 => ?_) | refine m_icmp_ge 116 dX12_doLine_100 (by decide) (fun c100 => by exfalso; omega) (fun c100 => ?_)
        refine m_aload_n dX12_doLine_103 rfl ?_
        refine m_get fl_X12_17 (by decide) rfl rfl dX12_doLine_104 ?_
        refine m_iload_n dX12_doLine_107 rfl ?_
        refine m_iconstN 0 dX12_doLine_108 (by decide) ?_
        refine m_iast (by first | exact ⟨by decide, by decide, fun _ => rfl⟩ | exact isI_arr _ (by omega) | exact isI_mv _ (by omega) | exact isI_ne _ (by omega)) (by omega) dX12_doLine_109 ?_
        first | refine m_iincN 1 dX12_doLine_110 (by decide) rfl rfl ?_ | refine m_iinc dX12_doLine_110 rfl rfl ?_
        refine m_goto 98 dX12_doLine_113 (by decide) ?_
        refine ih hin _ (se_e g1 (by decide)) (fun p hp => se_e (g2 p hp) (by decide)) (fun p hp => ?_) (fun q hq => se_e (g4 q hq) (by decide)) (g5.se (by decide))
        by_cases e : p = i
        · subst e; exact se_s _ _ _ _
        · exact se_e2 (g3 p (by omega)) e
      · have e6 : i = 4 := by omega
        subst e6
        refine m_iload_n dX12_doLine_98 rfl ?_
        refine m_iconstN 4 dX12_doLine_99 (by decide) ?_
        first | refine m_icmp_geN 116 dX12_doLine_100 (by decide) (by omega) (by omega) (fun c100 => ?_) (fun c100 => by exfalso; omega) | refine m_icmp_ge 116 dX12_doLine_100 (by decide) (fun c100 => ?_) (fun c100 => by exfalso; omega)
        refine m_goto 180 dX12_doLine_116 (by decide) ?_
        exact m_vret hR dX12_doLine_180 (⟨⟨⟨g1, g2, fbOk_0 q1 q2⟩, fun j' hj' => ⟨g3 j' hj', Nat.zero_le _, fun i hi => absurd hi (Nat.not_lt_zero i), fun x hx => by cases hx⟩⟩, g4, g5⟩)
      )
    have loop1 : ∀ i, i ≤ 6 → ∀ d1, d1.1 240 0 = nI n → (∀ p, p < i → d1.1 241 p = nI 0) → (∀ q, q ≠ 0 → d1.1 240 q = d.1 240 q) → chg moDC d d1 → mG W K cX12_doLine RX12 (dep + 1) d1 77 [some (.ref (xad W 240)), some (.int (nI (4 * j))), some (.int (nI n)), some (.int (nI i))] [] := x_up _ (fun i hi ih d1 g1 g2 g4 g5 => by
      by_cases hin : i < 6
      · skip
        refine m_iload_n dX12_doLine_77 rfl ?_
        refine m_bipushN 6 dX12_doLine_78 (by decide) ?_
        first | refine m_icmp_geN 96 dX12_doLine_80 (by decide) (by omega) (by omega) (fun c80 => by exfalso; omega) (fun c80 => ?_) | refine m_icmp_ge 96 dX12_doLine_80 (by decide) (fun c80 => by exfalso; omega) (fun c80 => ?_)
        refine m_aload_n dX12_doLine_83 rfl ?_
        refine m_get fl_X12_13 (by decide) rfl rfl dX12_doLine_84 ?_
        refine m_iload_n dX12_doLine_87 rfl ?_
        refine m_iconstN 0 dX12_doLine_88 (by decide) ?_
        refine m_iast (by first | exact ⟨by decide, by decide, fun _ => rfl⟩ | exact isI_arr _ (by omega) | exact isI_mv _ (by omega) | exact isI_ne _ (by omega)) (by omega) dX12_doLine_89 ?_
        first | refine m_iincN 1 dX12_doLine_90 (by decide) rfl rfl ?_ | refine m_iinc dX12_doLine_90 rfl rfl ?_
        refine m_goto 77 dX12_doLine_93 (by decide) ?_
        refine ih hin _ (se_e g1 (by decide)) (fun p hp => ?_) (fun q hq => se_e (g4 q hq) (by decide)) (g5.se (by decide))
        by_cases e : p = i
        · subst e; exact se_s _ _ _ _
        · exact se_e2 (g2 p (by omega)) e
      · have e6 : i = 6 := by omega
        subst e6
        refine m_iload_n dX12_doLine_77 rfl ?_
        refine m_bipushN 6 dX12_doLine_78 (by decide) ?_
        first | refine m_icmp_geN 96 dX12_doLine_80 (by decide) (by omega) (by omega) (fun c80 => ?_) (fun c80 => by exfalso; omega) | refine m_icmp_ge 96 dX12_doLine_80 (by decide) (fun c80 => ?_) (fun c80 => by exfalso; omega)
        refine m_iconstN 0 dX12_doLine_96 (by decide) ?_
        refine m_istore_n dX12_doLine_97 (Nat.le_of_ble_eq_true rfl) rfl ?_
        exact loop2 0 (Nat.zero_le _) d1 g1 g2 (fun p hp => absurd hp (Nat.not_lt_zero p)) g4 g5
      )
    refine m_aload_n dX12_doLine_0 rfl ?_
    refine m_get fl_X12_26 (by decide) rfl rfl dX12_doLine_1 ?_
    refine m_iload_n dX12_doLine_4 rfl ?_
    refine m_iconstN 1 dX12_doLine_5 (by decide) ?_
    first | refine m_iaddN dX12_doLine_6 ?_ | refine m_iadd dX12_doLine_6 ?_
    refine m_iald (by first | exact ⟨by decide, by decide, fun _ => rfl⟩ | exact isI_arr _ (by omega) | exact isI_mv _ (by omega) | exact isI_ne _ (by omega)) (by omega) dX12_doLine_7 ?_
    refine m_eqi (a5) ?_
    refine m_istore_n dX12_doLine_8 (Nat.le_of_ble_eq_true rfl) rfl ?_
    refine m_aload_n dX12_doLine_9 rfl ?_
    refine m_get fl_X12_26 (by decide) rfl rfl dX12_doLine_10 ?_
    refine m_iload_n dX12_doLine_13 rfl ?_
    refine m_iald (by first | exact ⟨by decide, by decide, fun _ => rfl⟩ | exact isI_arr _ (by omega) | exact isI_mv _ (by omega) | exact isI_ne _ (by omega)) (by omega) dX12_doLine_14 ?_
    refine m_eqi ((a1 : _ = nI 2)) ?_
    refine m_iconstN 2 dX12_doLine_15 (by decide) ?_
    first | refine m_icmp_geN 60 dX12_doLine_16 (by decide) (by omega) (by omega) (fun c16 => ?_) (fun c16 => by exfalso; omega) | refine m_icmp_ge 60 dX12_doLine_16 (by decide) (fun c16 => ?_) (fun c16 => by exfalso; omega)
    refine m_aload_n dX12_doLine_60 rfl ?_
    refine m_get fl_X12_26 (by decide) rfl rfl dX12_doLine_61 ?_
    refine m_iload_n dX12_doLine_64 rfl ?_
    refine m_iald (by first | exact ⟨by decide, by decide, fun _ => rfl⟩ | exact isI_arr _ (by omega) | exact isI_mv _ (by omega) | exact isI_ne _ (by omega)) (by omega) dX12_doLine_65 ?_
    refine m_eqi ((a1 : _ = nI 2)) ?_
    refine m_iconstN 2 dX12_doLine_66 (by decide) ?_
    first | refine m_icmp_neN 119 dX12_doLine_67 (by decide) (by omega) (by omega) (fun c67 => by exfalso; omega) (fun c67 => ?_) | refine m_icmp_ne 119 dX12_doLine_67 (by decide) (fun c67 => by exfalso; omega) (fun c67 => ?_)
    refine m_aload_n dX12_doLine_70 rfl ?_
    refine m_iload_n dX12_doLine_71 rfl ?_
    refine m_put fl_X12_7 (by decide) rfl (Nat.le_of_ble_eq_true rfl) rfl dX12_doLine_72 ?_
    refine m_iconstN 0 dX12_doLine_75 (by decide) ?_
    refine m_istore_n dX12_doLine_76 (Nat.le_of_ble_eq_true rfl) rfl ?_
    exact loop1 0 (Nat.zero_le _) _ (se_s _ _ _ _) (fun p hp => absurd hp (Nat.not_lt_zero p)) (fun q hq => se_n _ _ hq) (chg.rf.se (by decide))
  · subst ht
    have a5 := a3 (show 2 ≤ (3 : Nat) by decide)
    have a6 := a4 (show (3 : Nat) = 3 from rfl)
    have hwl := wrd_len bs p (q - p)
    have hwx : ∀ x ∈ wrd bs p (q - p), x < σ.1 := fun x hx => by
      obtain ⟨i, hi, rfl⟩ := List.mem_map.mp hx
      have := List.mem_range.mp hi
      exact (q5 (p + i) (by omega) (by omega)).2
    have loop : ∀ i, i ≤ q - p → ∀ d1, d1.1 242 hn = nI (q - p) → (∀ j', j' ≠ hn → d1.1 242 j' = d.1 242 j') → (∀ i', i' < i → d1.1 243 (24 * hn + i') = nI ((wrd bs p (q - p)).getD i' 0)) → (∀ j' i', j' ≠ hn → i' < 24 → d1.1 243 (24 * j' + i') = d.1 243 (24 * j' + i')) → chg [242, 243] d d1 → mG W K cX12_doLine RX12 (dep + 1) d1 135 [some (.ref (xad W 240)), some (.int (nI (4 * j))), some (.int (nI hn)), some (.int (nI i))] [] := x_up _ (fun i hi ih d1 g1 g2 g3 g4 g5 => by
      by_cases hin : i < q - p
      · have hb := h.2.2 (p + i) (by omega)
        have hb9 := hb.2
        have hb7 := (q5 (p + i) (by omega) (by omega)).1
        have hwi : (wrd bs p (q - p)).getD i 0 = bs.getD (p + i) 0 - 97 := by
          rw [getD_at (by omega)]; unfold wrd; simp
        refine m_iload_n dX12_doLine_135 rfl ?_
        refine m_aload_n dX12_doLine_136 rfl ?_
        refine m_get fl_X12_17 (by decide) rfl rfl dX12_doLine_137 ?_
        refine m_iload_n dX12_doLine_140 rfl ?_
        refine m_iald (by first | exact ⟨by decide, by decide, fun _ => rfl⟩ | exact isI_arr _ (by omega) | exact isI_mv _ (by omega) | exact isI_ne _ (by omega)) (by omega) dX12_doLine_141 ?_
        refine m_eqi (g1) ?_
        first | refine m_icmp_geN 180 dX12_doLine_142 (by decide) (by omega) (by omega) (fun c142 => by exfalso; omega) (fun c142 => ?_) | refine m_icmp_ge 180 dX12_doLine_142 (by decide) (fun c142 => by exfalso; omega) (fun c142 => ?_)
        refine m_aload_n dX12_doLine_145 rfl ?_
        refine m_get fl_X12_20 (by decide) rfl rfl dX12_doLine_146 ?_
        refine m_bipushN 24 dX12_doLine_149 (by decide) ?_
        refine m_iload_n dX12_doLine_151 rfl ?_
        first | refine m_imulN dX12_doLine_152 ?_ | refine m_imul dX12_doLine_152 ?_
        refine m_iload_n dX12_doLine_153 rfl ?_
        first | refine m_iaddN dX12_doLine_154 ?_ | refine m_iadd dX12_doLine_154 ?_
        refine m_aload_n dX12_doLine_155 rfl ?_
        refine m_get fl_X12_23 (by decide) rfl rfl dX12_doLine_156 ?_
        refine m_aload_n dX12_doLine_159 rfl ?_
        refine m_get fl_X12_26 (by decide) rfl rfl dX12_doLine_160 ?_
        refine m_iload_n dX12_doLine_163 rfl ?_
        refine m_iconstN 2 dX12_doLine_164 (by decide) ?_
        first | refine m_iaddN dX12_doLine_165 ?_ | refine m_iadd dX12_doLine_165 ?_
        refine m_iald (by first | exact ⟨by decide, by decide, fun _ => rfl⟩ | exact isI_arr _ (by omega) | exact isI_mv _ (by omega) | exact isI_ne _ (by omega)) (by omega) dX12_doLine_166 ?_
        refine m_eqi ((by rw [(g5 245 (by simp)).1]; exact a6.1 : _ = nI p)) ?_
        refine m_iload_n dX12_doLine_167 rfl ?_
        first | refine m_iaddN dX12_doLine_168 ?_ | refine m_iadd dX12_doLine_168 ?_
        refine m_iald (by first | exact ⟨by decide, by decide, fun _ => rfl⟩ | exact isI_arr _ (by omega) | exact isI_mv _ (by omega) | exact isI_ne _ (by omega)) (by omega) dX12_doLine_169 ?_
        refine m_eqi ((by rw [(g5 244 (by simp)).1]; exact hb.1 : _ = nI (bs.getD (p + i) 0))) ?_
        refine m_bipushN 97 dX12_doLine_170 (by decide) ?_
        first | refine m_isubN dX12_doLine_172 (by omega) ?_ | refine m_isub dX12_doLine_172 ?_
        refine m_iast (by first | exact ⟨by decide, by decide, fun _ => rfl⟩ | exact isI_arr _ (by omega) | exact isI_mv _ (by omega) | exact isI_ne _ (by omega)) (by omega) dX12_doLine_173 ?_
        first | refine m_iincN 1 dX12_doLine_174 (by decide) rfl rfl ?_ | refine m_iinc dX12_doLine_174 rfl rfl ?_
        refine m_goto 135 dX12_doLine_177 (by decide) ?_
        refine ih hin _ (se_e g1 (by decide)) (fun j' hj' => se_e (g2 j' hj') (by decide)) (fun i' hi' => ?_) (fun j' i' hj' hi' => se_e2 (g4 j' i' hj' hi') (by omega)) (g5.se (by simp))
        by_cases e : i' = i
        · subst e; rw [hwi]; exact se_s _ _ _ _
        · exact se_e2 (g3 i' (by omega)) (by omega)
      · have e6 : i = q - p := by omega
        subst e6
        refine m_iload_n dX12_doLine_135 rfl ?_
        refine m_aload_n dX12_doLine_136 rfl ?_
        refine m_get fl_X12_17 (by decide) rfl rfl dX12_doLine_137 ?_
        refine m_iload_n dX12_doLine_140 rfl ?_
        refine m_iald (by first | exact ⟨by decide, by decide, fun _ => rfl⟩ | exact isI_arr _ (by omega) | exact isI_mv _ (by omega) | exact isI_ne _ (by omega)) (by omega) dX12_doLine_141 ?_
        refine m_eqi (g1) ?_
        first | refine m_icmp_geN 180 dX12_doLine_142 (by decide) (by omega) (by omega) (fun c142 => ?_) (fun c142 => by exfalso; omega) | refine m_icmp_ge 180 dX12_doLine_142 (by decide) (fun c142 => ?_) (fun c142 => by exfalso; omega)
        exact m_vret hR dX12_doLine_180 (⟨⟨hs.1.fr g5 (by simp) (by simp), hs.2.put (xs := wrd bs p (q - p)) q1 (by omega) hwx (by rw [hwl]; exact g1) g2 (fun i hi => g3 i (by omega)) g4⟩, fun q hq => by rw [(g5 240 (by simp)).1], g5.mono (by decide)⟩)
      )
    refine m_aload_n dX12_doLine_0 rfl ?_
    refine m_get fl_X12_26 (by decide) rfl rfl dX12_doLine_1 ?_
    refine m_iload_n dX12_doLine_4 rfl ?_
    refine m_iconstN 1 dX12_doLine_5 (by decide) ?_
    first | refine m_iaddN dX12_doLine_6 ?_ | refine m_iadd dX12_doLine_6 ?_
    refine m_iald (by first | exact ⟨by decide, by decide, fun _ => rfl⟩ | exact isI_arr _ (by omega) | exact isI_mv _ (by omega) | exact isI_ne _ (by omega)) (by omega) dX12_doLine_7 ?_
    refine m_eqi (a5) ?_
    refine m_istore_n dX12_doLine_8 (Nat.le_of_ble_eq_true rfl) rfl ?_
    refine m_aload_n dX12_doLine_9 rfl ?_
    refine m_get fl_X12_26 (by decide) rfl rfl dX12_doLine_10 ?_
    refine m_iload_n dX12_doLine_13 rfl ?_
    refine m_iald (by first | exact ⟨by decide, by decide, fun _ => rfl⟩ | exact isI_arr _ (by omega) | exact isI_mv _ (by omega) | exact isI_ne _ (by omega)) (by omega) dX12_doLine_14 ?_
    refine m_eqi ((a1 : _ = nI 3)) ?_
    refine m_iconstN 2 dX12_doLine_15 (by decide) ?_
    first | refine m_icmp_geN 60 dX12_doLine_16 (by decide) (by omega) (by omega) (fun c16 => ?_) (fun c16 => by exfalso; omega) | refine m_icmp_ge 60 dX12_doLine_16 (by decide) (fun c16 => ?_) (fun c16 => by exfalso; omega)
    refine m_aload_n dX12_doLine_60 rfl ?_
    refine m_get fl_X12_26 (by decide) rfl rfl dX12_doLine_61 ?_
    refine m_iload_n dX12_doLine_64 rfl ?_
    refine m_iald (by first | exact ⟨by decide, by decide, fun _ => rfl⟩ | exact isI_arr _ (by omega) | exact isI_mv _ (by omega) | exact isI_ne _ (by omega)) (by omega) dX12_doLine_65 ?_
    refine m_eqi ((a1 : _ = nI 3)) ?_
    refine m_iconstN 2 dX12_doLine_66 (by decide) ?_
    first | refine m_icmp_neN 119 dX12_doLine_67 (by decide) (by omega) (by omega) (fun c67 => ?_) (fun c67 => by exfalso; omega) | refine m_icmp_ne 119 dX12_doLine_67 (by decide) (fun c67 => ?_) (fun c67 => by exfalso; omega)
    refine m_aload_n dX12_doLine_119 rfl ?_
    refine m_get fl_X12_17 (by decide) rfl rfl dX12_doLine_120 ?_
    refine m_iload_n dX12_doLine_123 rfl ?_
    refine m_aload_n dX12_doLine_124 rfl ?_
    refine m_get fl_X12_26 (by decide) rfl rfl dX12_doLine_125 ?_
    refine m_iload_n dX12_doLine_128 rfl ?_
    refine m_iconstN 3 dX12_doLine_129 (by decide) ?_
    first | refine m_iaddN dX12_doLine_130 ?_ | refine m_iadd dX12_doLine_130 ?_
    refine m_iald (by first | exact ⟨by decide, by decide, fun _ => rfl⟩ | exact isI_arr _ (by omega) | exact isI_mv _ (by omega) | exact isI_ne _ (by omega)) (by omega) dX12_doLine_131 ?_
    refine m_eqi (a6.2) ?_
    refine m_iast (by first | exact ⟨by decide, by decide, fun _ => rfl⟩ | exact isI_arr _ (by omega) | exact isI_mv _ (by omega) | exact isI_ne _ (by omega)) (by omega) dX12_doLine_132 ?_
    refine m_iconstN 0 dX12_doLine_133 (by decide) ?_
    refine m_istore_n dX12_doLine_134 (Nat.le_of_ble_eq_true rfl) rfl ?_
    exact loop 0 (Nat.zero_le _) _ (se_s _ _ _ _) (fun j' hj' => se_n _ _ hj') (fun i' hi' => absurd hi' (Nat.not_lt_zero i')) (fun j' i' _ _ => rfl) (chg.rf.se (by simp))
def moTC : List Nat := [240, 241, 242, 243, 245]
theorem s_X12_told (hs : moSt d σ) (h : moTx d bs) : mSpecI l W mX12_told (dep + 6) [.ref (xad W 240)] d (fun r d' => (((rdF bs 16 0 0 σ.1 []).1 ≠ none ∧ r = -4 ∧ moSt d' σ ∧ moTx d' bs) ∨ ((rdF bs 16 0 0 σ.1 []).1 = none ∧ r = nI (rdF bs 16 0 0 σ.1 []).2.length ∧ moSt d' ((rdF bs 16 0 0 σ.1 []).2.foldl (doF bs) σ) ∧ moTx d' [])) ∧ (d'.1 240 32 = d.1 240 32 ∧ d'.1 240 33 = d.1 240 33) ∧ chg moTC d d') := by
  have hk6 := hs.1.2.2.2.1
  have h160 := h.2.1
  have hsF : ∀ {d1 : xD}, chF d d1 → moSt d1 σ := fun g => ⟨hs.1.k0 (g.2 0 (by decide)) (g.1 241 (by decide)).1, hs.2.k0 (g.1 242 (by decide)).1 (g.1 243 (by decide)).1⟩
  refine m_spec RX12 [some (.ref (xad W 240)), none] rfl (by decide +kernel) rfl rfl (fun K hR => ?_)
  have loop : ∀ ls : List (Nat × Nat × Nat × Nat), rdF bs 16 0 0 σ.1 [] = (none, ls) → ls.length ≤ 16 → okLs bs σ.1 ls → ∀ i, i ≤ ls.length → ∀ d1, moSt d1 ((ls.take i).foldl (doF bs) σ) → moTx d1 bs → d1.1 240 12 = nI ls.length → (∀ i' t, ls[i']? = some t → mLine bs d1 (4 * i') t) → (d1.1 240 32 = d.1 240 32 ∧ d1.1 240 33 = d.1 240 33) → chg moTC d d1 → mG W K cX12_told RX12 (dep + 6) d1 12 [some (.ref (xad W 240)), some (.int (nI i))] [] := fun ls e1 e2 e3 => x_up _ (fun i hi ih d1 g1 g2 g3 g4 g5 g6 => by
    by_cases hil : i < ls.length
    · have hok := okLs_at ls σ.1 i hil e3
      rw [← doF_ks (bs := bs)] at hok
      refine m_iload_n dX12_told_12 rfl ?_
      refine m_aload_n dX12_told_13 rfl ?_
      refine m_get fl_X12_147 (by decide) rfl rfl dX12_told_14 ?_
      refine m_eqi (g3) ?_
      first | refine m_icmp_geN 33 dX12_told_17 (by decide) (by omega) (by omega) (fun c17 => by exfalso; omega) (fun c17 => ?_) | refine m_icmp_ge 33 dX12_told_17 (by decide) (fun c17 => by exfalso; omega) (fun c17 => ?_)
      refine m_aload_n dX12_told_20 rfl ?_
      refine m_iconstN 4 dX12_told_21 (by decide) ?_
      refine m_iload_n dX12_told_22 rfl ?_
      first | refine m_imulN dX12_told_23 ?_ | refine m_imul dX12_told_23 ?_
      refine m_callVV (s_X12_doLine g1 g2 (by omega) (g4 i ls[i] (List.getElem?_eq_getElem hil)) hok) cv_X12_161 dX12_told_24 (fun d24 h24 => ?_)
      first | refine m_iincN 1 dX12_told_27 (by decide) rfl rfl ?_ | refine m_iinc dX12_told_27 rfl rfl ?_
      refine m_goto 12 dX12_told_30 (by decide) ?_
      refine ih hil d24 ?_ ⟨(h24.2.1 4 (by decide)).trans g2.1, g2.2.1, fun q hq => by rw [(h24.2.2 244 (by decide)).1]; exact g2.2.2 q hq⟩ ((h24.2.1 12 (by decide)).trans g3) (fun i' t q => (g4 i' t q).rd (fun q _ _ => by rw [(h24.2.2 245 (by decide)).1])) ⟨(h24.2.1 32 (by decide)).trans g5.1, (h24.2.1 33 (by decide)).trans g5.2⟩ (g6.tr (h24.2.2.mono (by decide)))
      rw [List.take_succ_eq_append_getElem hil, List.foldl_append]
      exact h24.1
    · have e6 : i = ls.length := by omega
      subst e6
      rw [List.take_length] at g1
      refine m_iload_n dX12_told_12 rfl ?_
      refine m_aload_n dX12_told_13 rfl ?_
      refine m_get fl_X12_147 (by decide) rfl rfl dX12_told_14 ?_
      refine m_eqi (g3) ?_
      first | refine m_icmp_geN 33 dX12_told_17 (by decide) (by omega) (by omega) (fun c17 => ?_) (fun c17 => by exfalso; omega) | refine m_icmp_ge 33 dX12_told_17 (by decide) (fun c17 => ?_) (fun c17 => by exfalso; omega)
      refine m_aload_n dX12_told_33 rfl ?_
      refine m_iconstN 0 dX12_told_34 (by decide) ?_
      refine m_put fl_X12_87 (by decide) rfl (Nat.le_of_ble_eq_true rfl) rfl dX12_told_35 ?_
      refine m_aload_n dX12_told_38 rfl ?_
      refine m_get fl_X12_147 (by decide) rfl rfl dX12_told_39 ?_
      refine m_eqi ((se_e2 g3 (by decide) : _ = nI ls.length)) ?_
      exact m_iret (ty := .int) hR dX12_told_42 (⟨by rw [e1]; exact Or.inr ⟨rfl, rfl, ⟨g1.1.k0 (se_n _ _ (by decide)) rfl, g1.2.k0 rfl rfl⟩, ⟨se_s _ _ _ _, Nat.zero_le _, fun i hi => absurd hi (Nat.not_lt_zero i)⟩⟩, ⟨(se_n _ _ (by decide)).trans g5.1, (se_n _ _ (by decide)).trans g5.2⟩, g6.se (by decide)⟩)
    )
  cases hF : (rdF bs 16 0 0 σ.1 []).1 with
  | some z =>
    refine m_aload_n dX12_told_0 rfl ?_
    refine m_callVI (s_X12_isRead h hs.1.1 hk6) cv_X12_154 dX12_told_1 (fun r1 d1 h1 => ?_)
    obtain ⟨h1, h2⟩ := h1
    obtain ⟨z', hz, rfl, h3⟩ := h1.resolve_left (fun z => by rw [hF] at z; exact absurd z.1 (by simp))
    refine m_if_ne 10 dX12_told_4 (by decide) (fun c4 => by exfalso; exact c4 rfl) (fun c4 => ?_)
    refine m_bipush (v := -4) dX12_told_7 (by decide) ?_
    exact m_iret (ty := .int) hR dX12_told_9 (⟨Or.inl ⟨by rw [hF]; simp, rfl, hsF h2, h.rf' h2⟩, ⟨h2.2 32 (by decide), h2.2 33 (by decide)⟩, h2.1.mono (by decide)⟩)
  | none =>
    have hok := rdF_ok (k0 := σ.1) 16 0 0 σ.1 [] (Nat.zero_le _) trivial rfl hF
    have hpr : rdF bs 16 0 0 σ.1 [] = (none, (rdF bs 16 0 0 σ.1 []).2) := Prod.ext hF rfl
    refine m_aload_n dX12_told_0 rfl ?_
    refine m_callVI (s_X12_isRead h hs.1.1 hk6) cv_X12_154 dX12_told_1 (fun r1 d1 h1 => ?_)
    obtain ⟨h1, h2⟩ := h1
    obtain ⟨-, rfl, h3, h4, h5⟩ := h1.resolve_right (fun z => by obtain ⟨z, hz, -⟩ := z; rw [hF] at hz; cases hz)
    refine m_if_ne 10 dX12_told_4 (by decide) (fun c4 => ?_) (fun c4 => by exfalso; exact c4 (by decide))
    refine m_iconstN 0 dX12_told_10 (by decide) ?_
    refine m_istore_n dX12_told_11 (Nat.le_of_ble_eq_true rfl) rfl ?_
    exact loop _ hpr h4 hok 0 (Nat.zero_le _) d1 (hsF h2) (h.rf' h2) h3 h5 ⟨h2.2 32 (by decide), h2.2 33 (by decide)⟩ (h2.1.mono (by decide))
end MOD
