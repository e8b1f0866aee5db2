/-! the law's model: heaps in order, places -/
theorem nI_bar (s b x : Nat) (hx : x < 6) : nI s &&& (nI b ||| (nI (2 ^ x) - nI 1)) = nI (s &&& (b ||| (2 ^ x - 1))) := by
  rw [pk_sub (Nat.two_pow_pos x), nI_or, nI_and]
theorem fol0 (k : Nat) (fb : Nat → Nat) (b : Nat) : fol k fb 0 b = 1 := rfl
section MOD
variable {l : Launch} {W : xW} {dep : Nat} {d : xD} {bs : List Nat} {σ : St} {x y z w : Int32} {n n2 n3 k : Nat} {fb : Nat → Nat}
theorem s_X12_barred (hl : moLet d k fb) {b x : Nat} (hx : x < 6) : mSpecI l W mX12_barred dep [.ref (xad W 240), .int (nI b), .int (nI x)] d (fun r d' => r = nI (bar fb b x) ∧ d' = d) := by
  have h2 := Nat.two_pow_pos x
  refine m_spec RX12 [some (.ref (xad W 240)), some (.int (nI b)), some (.int (nI x))] rfl (by decide +kernel) rfl rfl (fun K hR => ?_)
  refine m_aload_n dX12_barred_0 rfl ?_
  refine m_get fl_X12_13 (by decide) rfl rfl dX12_barred_1 ?_
  refine m_iload_n dX12_barred_4 rfl ?_
  refine m_iald (by first | exact ⟨by decide, by decide, fun _ => rfl⟩ | exact isI_arr _ (by omega) | exact isI_mv _ (by omega) | exact isI_ne _ (by omega)) (by omega) dX12_barred_5 ?_
  refine m_eqi (hl.2.1 x hx) ?_
  refine m_iload_n dX12_barred_6 rfl ?_
  refine m_iconstN 1 dX12_barred_7 (by decide) ?_
  refine m_iload_n dX12_barred_8 rfl ?_
  refine m_ishl dX12_barred_9 ?_
  refine m_eqi (nI_sb1 x hx) ?_
  refine m_iconstN 1 dX12_barred_10 (by decide) ?_
  first | refine m_isubN dX12_barred_11 (by omega) ?_ | refine m_isub dX12_barred_11 ?_
  refine m_ior dX12_barred_12 ?_
  refine m_eqi (nI_or _ _) ?_
  refine m_iand dX12_barred_13 ?_
  refine m_eqi (nI_and _ _) ?_
  exact m_iret (ty := .int) hR dX12_barred_14 (⟨rfl, rfl⟩)
theorem s_X12_findExact {m : Nat} (hl : moLet d k fb) (hm : m ≤ 20) : mSpecV l W mX12_findExact (dep + 1) [.ref (xad W 240), .int (nI m)] d (fun d' => exIs d' k fb m ∧ chg [257] d d') := by
  have hk := hl.2.2.2.1
  have hL : isL W 257 1344 := ⟨by decide, by decide, fun _ => rfl⟩
  refine m_spec RX12 [some (.ref (xad W 240)), some (.int (nI m)), none, none, none, none, none] rfl (by decide +kernel) rfl rfl (fun K hR => ?_)
  have outer : ∀ i, i ≤ m + 1 → ∀ d1 o3 o4 o5 o6, (∀ n, n < i → ∀ b, b < 64 → d1.2 257 (64 * n + b) = lN (fol k fb n b)) → chg [257] d d1 → mG W K cX12_findExact RX12 (dep + 1) d1 2 [some (.ref (xad W 240)), some (.int (nI m)), some (.int (nI i)), o3, o4, o5, o6] [] := x_up _ (fun i hi ih d1 o3 o4 o5 o6 g1 g2 => by
    by_cases hin : i < m + 1
    · have mid : ∀ b, b ≤ 64 → ∀ d2 o4 o5 o6, (∀ n, n < i → ∀ b, b < 64 → d2.2 257 (64 * n + b) = lN (fol k fb n b)) → (∀ b', b' < b → d2.2 257 (64 * i + b') = lN (fol k fb i b')) → chg [257] d d2 → mG W K cX12_findExact RX12 (dep + 1) d2 9 [some (.ref (xad W 240)), some (.int (nI m)), some (.int (nI i)), some (.int (nI b)), o4, o5, o6] [] := x_up _ (fun b hb ihb d2 o4 o5 o6 k1 k2 k3 => by
        have hl2 := hl.fr k3 (by simp) (by simp)
        by_cases hbn : b < 64
        · have hend : ∀ o6, mG W K cX12_findExact RX12 (dep + 1) d2 86 [some (.ref (xad W 240)), some (.int (nI m)), some (.int (nI i)), some (.int (nI b)), some (.long (lN (fol k fb i b))), none, o6] [] := fun o6 => by
            refine m_aload_n dX12_findExact_86 rfl ?_
            refine m_get fl_X12_65 (by decide) rfl rfl dX12_findExact_87 ?_
            refine m_bipushN 64 dX12_findExact_90 (by decide) ?_
            refine m_iload_n dX12_findExact_92 rfl ?_
            first | refine m_imulN dX12_findExact_93 ?_ | refine m_imul dX12_findExact_93 ?_
            refine m_iload_n dX12_findExact_94 rfl ?_
            first | refine m_iaddN dX12_findExact_95 ?_ | refine m_iadd dX12_findExact_95 ?_
            refine m_lload dX12_findExact_96 rfl ?_
            refine m_last hL (by omega) dX12_findExact_98 ?_
            first | refine m_iincN 1 dX12_findExact_99 (by decide) rfl rfl ?_ | refine m_iinc dX12_findExact_99 rfl rfl ?_
            refine m_goto 9 dX12_findExact_102 (by decide) ?_
            refine ihb hbn _ _ _ _ (fun n hn b' hb' => by rw [seL_n _ _ (by omega)]; exact k1 n hn b' hb') (fun b' hb' => ?_) (k3.seL (by simp))
            by_cases e : b' = b
            · subst e; exact seL_s' _ _ _ _
            · rw [seL_n _ _ (by omega)]; exact k2 b' (by omega)
          cases i with
          | zero =>
            have hk1 := hl.2.2.1
            refine m_iload_n dX12_findExact_9 rfl ?_
            refine m_bipushN 64 dX12_findExact_10 (by decide) ?_
            first | refine m_icmp_geN 105 dX12_findExact_12 (by decide) (by omega) (by omega) (fun c12 => by exfalso; omega) (fun c12 => ?_) | refine m_icmp_ge 105 dX12_findExact_12 (by decide) (fun c12 => by exfalso; omega) (fun c12 => ?_)
            refine m_iload_n dX12_findExact_15 rfl ?_
            first | refine m_if_neN 23 dX12_findExact_16 (by decide) (by omega) (fun c16 => by exfalso; exact absurd rfl c16) (fun c16 => ?_) | refine m_if_ne 23 dX12_findExact_16 (by decide) (fun c16 => by exfalso; exact absurd rfl c16) (fun c16 => ?_)
            refine m_lconstN 1 dX12_findExact_19 (by decide) ?_
            refine m_goto 24 dX12_findExact_20 (by decide) ?_
            refine m_lstore dX12_findExact_24 (Nat.le_of_ble_eq_true rfl) rfl ?_
            refine m_iconstN 0 dX12_findExact_26 (by decide) ?_
            refine m_istore dX12_findExact_27 (Nat.le_of_ble_eq_true rfl) rfl ?_
            refine m_iload dX12_findExact_29 rfl ?_
            refine m_aload_n dX12_findExact_31 rfl ?_
            refine m_get fl_X12_7 (by decide) rfl rfl dX12_findExact_32 ?_
            refine m_eqi (hl2.1) ?_
            first | refine m_icmp_geN 86 dX12_findExact_35 (by decide) (by omega) (by omega) (fun c35 => by exfalso; omega) (fun c35 => ?_) | refine m_icmp_ge 86 dX12_findExact_35 (by decide) (fun c35 => by exfalso; omega) (fun c35 => ?_)
            refine m_iload_n dX12_findExact_38 rfl ?_
            first | refine m_if_leN 86 dX12_findExact_39 (by decide) (by omega) (fun c39 => ?_) (fun c39 => by exfalso; exact c39 rfl) | refine m_if_le 86 dX12_findExact_39 (by decide) (fun c39 => ?_) (fun c39 => by exfalso; exact c39 rfl)
            exact hend _
          | succ i =>
            have inner : ∀ x, x ≤ k → mG W K cX12_findExact RX12 (dep + 1) d2 29 [some (.ref (xad W 240)), some (.int (nI m)), some (.int (nI (i + 1))), some (.int (nI b)), some (.long (lN (folS k fb i b x))), none, some (.int (nI x))] [] := x_up _ (fun x hx ihx => by
              by_cases hxk : x < k
              · have ihx2 := ihx hxk
                rw [folS_s] at ihx2
                have hbl := bar_lt (x := x) hl.2.2 (by omega) b
                have hbl6 : bar fb b x < 2 ^ 6 := Nat.lt_of_lt_of_le hbl (Nat.pow_le_pow_right (n := 2) (by decide) hk)
                cases hbt : b.testBit x with
                | true =>
                  rw [show folL k fb i b x = 0 from if_pos hbt, Nat.add_zero] at ihx2
                  refine m_iload dX12_findExact_29 rfl ?_
                  refine m_aload_n dX12_findExact_31 rfl ?_
                  refine m_get fl_X12_7 (by decide) rfl rfl dX12_findExact_32 ?_
                  refine m_eqi (hl2.1) ?_
                  first | refine m_icmp_geN 86 dX12_findExact_35 (by decide) (by omega) (by omega) (fun c35 => by exfalso; omega) (fun c35 => ?_) | refine m_icmp_ge 86 dX12_findExact_35 (by decide) (fun c35 => by exfalso; omega) (fun c35 => ?_)
                  refine m_iload_n dX12_findExact_38 rfl ?_
                  first | refine m_if_leN 86 dX12_findExact_39 (by decide) (by omega) (fun c39 => by exfalso; omega) (fun c39 => ?_) | refine m_if_le 86 dX12_findExact_39 (by decide) (fun c39 => by exfalso; omega) (fun c39 => ?_)
                  refine m_lload dX12_findExact_42 rfl ?_
                  refine m_iload_n dX12_findExact_44 rfl ?_
                  refine m_iload dX12_findExact_45 rfl ?_
                  refine m_ishr dX12_findExact_47 ?_
                  refine m_iconstN 1 dX12_findExact_48 (by decide) ?_
                  refine m_iand dX12_findExact_49 ?_
                  refine m_eqi ((by rw [nI_bit (by omega) (by omega), hbt]; rfl : _ = nI 1)) ?_
                  refine m_iconstN 1 dX12_findExact_50 (by decide) ?_
                  first | refine m_icmp_neN 58 dX12_findExact_51 (by decide) (by omega) (by omega) (fun c51 => by exfalso; exact c51 rfl) (fun c51 => ?_) | refine m_icmp_ne 58 dX12_findExact_51 (by decide) (fun c51 => by exfalso; exact c51 rfl) (fun c51 => ?_)
                  refine m_lconstN 0 dX12_findExact_54 (by decide) ?_
                  refine m_goto 77 dX12_findExact_55 (by decide) ?_
                  first | refine m_laddN dX12_findExact_77 ?_ | refine m_ladd dX12_findExact_77 ?_
                  refine m_lstore dX12_findExact_78 (Nat.le_of_ble_eq_true rfl) rfl ?_
                  first | refine m_iincN 1 dX12_findExact_80 (by decide) rfl rfl ?_ | refine m_iinc dX12_findExact_80 rfl rfl ?_
                  refine m_goto 29 dX12_findExact_83 (by decide) ?_
                  exact ihx2
                | false =>
                  rw [show folL k fb i b x = fol k fb i (bar fb b x) from if_neg (by rw [hbt]; decide)] at ihx2
                  refine m_iload dX12_findExact_29 rfl ?_
                  refine m_aload_n dX12_findExact_31 rfl ?_
                  refine m_get fl_X12_7 (by decide) rfl rfl dX12_findExact_32 ?_
                  refine m_eqi (hl2.1) ?_
                  first | refine m_icmp_geN 86 dX12_findExact_35 (by decide) (by omega) (by omega) (fun c35 => by exfalso; omega) (fun c35 => ?_) | refine m_icmp_ge 86 dX12_findExact_35 (by decide) (fun c35 => by exfalso; omega) (fun c35 => ?_)
                  refine m_iload_n dX12_findExact_38 rfl ?_
                  first | refine m_if_leN 86 dX12_findExact_39 (by decide) (by omega) (fun c39 => by exfalso; omega) (fun c39 => ?_) | refine m_if_le 86 dX12_findExact_39 (by decide) (fun c39 => by exfalso; omega) (fun c39 => ?_)
                  refine m_lload dX12_findExact_42 rfl ?_
                  refine m_iload_n dX12_findExact_44 rfl ?_
                  refine m_iload dX12_findExact_45 rfl ?_
                  refine m_ishr dX12_findExact_47 ?_
                  refine m_iconstN 1 dX12_findExact_48 (by decide) ?_
                  refine m_iand dX12_findExact_49 ?_
                  refine m_eqi ((by rw [nI_bit (by omega) (by omega), hbt]; rfl : _ = nI 0)) ?_
                  refine m_iconstN 1 dX12_findExact_50 (by decide) ?_
                  first | refine m_icmp_neN 58 dX12_findExact_51 (by decide) (by omega) (by omega) (fun c51 => ?_) (fun c51 => by exfalso; exact c51 (by decide)) | refine m_icmp_ne 58 dX12_findExact_51 (by decide) (fun c51 => ?_) (fun c51 => by exfalso; exact c51 (by decide))
                  refine m_aload_n dX12_findExact_58 rfl ?_
                  refine m_get fl_X12_65 (by decide) rfl rfl dX12_findExact_59 ?_
                  refine m_bipushN 64 dX12_findExact_62 (by decide) ?_
                  refine m_iload_n dX12_findExact_64 rfl ?_
                  refine m_iconstN 1 dX12_findExact_65 (by decide) ?_
                  first | refine m_isubN dX12_findExact_66 (by omega) ?_ | refine m_isub dX12_findExact_66 ?_
                  refine m_eqi ((by rw [Nat.add_sub_cancel] : _ = nI i)) ?_
                  first | refine m_imulN dX12_findExact_67 ?_ | refine m_imul dX12_findExact_67 ?_
                  refine m_aload_n dX12_findExact_68 rfl ?_
                  refine m_iload_n dX12_findExact_69 rfl ?_
                  refine m_iload dX12_findExact_70 rfl ?_
                  refine m_callVIp (s_X12_barred hl2 (b := b) (x := x) (by omega)) cv_X12_254 dX12_findExact_72 ?_
                  first | refine m_iaddN dX12_findExact_75 ?_ | refine m_iadd dX12_findExact_75 ?_
                  refine m_lald hL (by omega) dX12_findExact_76 ?_
                  refine m_eql (k1 i (by omega) (bar fb b x) (by omega)) ?_
                  first | refine m_laddN dX12_findExact_77 ?_ | refine m_ladd dX12_findExact_77 ?_
                  refine m_lstore dX12_findExact_78 (Nat.le_of_ble_eq_true rfl) rfl ?_
                  first | refine m_iincN 1 dX12_findExact_80 (by decide) rfl rfl ?_ | refine m_iinc dX12_findExact_80 rfl rfl ?_
                  refine m_goto 29 dX12_findExact_83 (by decide) ?_
                  exact ihx2
              · have e6 : x = k := by omega
                rw [e6, ← fol_s]
                refine m_iload dX12_findExact_29 rfl ?_
                refine m_aload_n dX12_findExact_31 rfl ?_
                refine m_get fl_X12_7 (by decide) rfl rfl dX12_findExact_32 ?_
                refine m_eqi (hl2.1) ?_
                first | refine m_icmp_geN 86 dX12_findExact_35 (by decide) (by omega) (by omega) (fun c35 => ?_) (fun c35 => by exfalso; omega) | refine m_icmp_ge 86 dX12_findExact_35 (by decide) (fun c35 => ?_) (fun c35 => by exfalso; omega)
                exact hend _
              )
            refine m_iload_n dX12_findExact_9 rfl ?_
            refine m_bipushN 64 dX12_findExact_10 (by decide) ?_
            first | refine m_icmp_geN 105 dX12_findExact_12 (by decide) (by omega) (by omega) (fun c12 => by exfalso; omega) (fun c12 => ?_) | refine m_icmp_ge 105 dX12_findExact_12 (by decide) (fun c12 => by exfalso; omega) (fun c12 => ?_)
            refine m_iload_n dX12_findExact_15 rfl ?_
            first | refine m_if_neN 23 dX12_findExact_16 (by decide) (by omega) (fun c16 => ?_) (fun c16 => by exfalso; omega) | refine m_if_ne 23 dX12_findExact_16 (by decide) (fun c16 => ?_) (fun c16 => by exfalso; omega)
            refine m_lconstN 0 dX12_findExact_23 (by decide) ?_
            refine m_lstore dX12_findExact_24 (Nat.le_of_ble_eq_true rfl) rfl ?_
            refine m_iconstN 0 dX12_findExact_26 (by decide) ?_
            refine m_istore dX12_findExact_27 (Nat.le_of_ble_eq_true rfl) rfl ?_
            exact inner 0 (Nat.zero_le _)
        · have e6 : b = 64 := by omega
          subst e6
          refine m_iload_n dX12_findExact_9 rfl ?_
          refine m_bipushN 64 dX12_findExact_10 (by decide) ?_
          first | refine m_icmp_geN 105 dX12_findExact_12 (by decide) (by omega) (by omega) (fun c12 => ?_) (fun c12 => by exfalso; omega) | refine m_icmp_ge 105 dX12_findExact_12 (by decide) (fun c12 => ?_) (fun c12 => by exfalso; omega)
          first | refine m_iincN 1 dX12_findExact_105 (by decide) rfl rfl ?_ | refine m_iinc dX12_findExact_105 rfl rfl ?_
          refine m_goto 2 dX12_findExact_108 (by decide) ?_
          refine ih hin d2 _ _ _ _ (fun n hn b' hb' => ?_) k3
          by_cases e : n = i
          · subst e; exact k2 b' hb'
          · exact k1 n (by omega) b' hb'
        )
      refine m_iload_n dX12_findExact_2 rfl ?_
      refine m_iload_n dX12_findExact_3 rfl ?_
      first | refine m_icmp_gtN 111 dX12_findExact_4 (by decide) (by omega) (by omega) (fun c4 => by exfalso; omega) (fun c4 => ?_) | refine m_icmp_gt 111 dX12_findExact_4 (by decide) (fun c4 => by exfalso; omega) (fun c4 => ?_)
      refine m_iconstN 0 dX12_findExact_7 (by decide) ?_
      refine m_istore_n dX12_findExact_8 (Nat.le_of_ble_eq_true rfl) rfl ?_
      exact mid 0 (Nat.zero_le _) d1 _ _ _ g1 (fun b' hb' => absurd hb' (Nat.not_lt_zero b')) g2
    · have e6 : i = m + 1 := by omega
      subst e6
      refine m_iload_n dX12_findExact_2 rfl ?_
      refine m_iload_n dX12_findExact_3 rfl ?_
      first | refine m_icmp_gtN 111 dX12_findExact_4 (by decide) (by omega) (by omega) (fun c4 => ?_) (fun c4 => by exfalso; omega) | refine m_icmp_gt 111 dX12_findExact_4 (by decide) (fun c4 => ?_) (fun c4 => by exfalso; omega)
      exact m_vret hR dX12_findExact_111 (⟨fun n hn b hb => g1 n (by omega) b hb, g2⟩)
    )
  refine m_iconstN 0 dX12_findExact_0 (by decide) ?_
  refine m_istore_n dX12_findExact_1 (Nat.le_of_ble_eq_true rfl) rfl ?_
  exact outer 0 (Nat.zero_le _) d _ _ _ _ (fun n hn => absurd hn (Nat.not_lt_zero n)) chg.rf
theorem exIs.fr {S : List Nat} {d d' : xD} {m : Nat} (h : exIs d k fb m) (hc : chg S d d') (h1 : 257 ∉ S) : exIs d' k fb m := fun n hn b hb => by rw [(hc 257 h1).2]; exact h n hn b hb
theorem s_X12_ofO {y z w : Int32} (h : y < 0 ∨ nI 20 < y ∨ z < 0 ∨ w < 0) : mSpecI l W mX12_of (dep + 1) [.ref (xad W 240), .int y, .int z, .int w] d (fun r d' => r = -3 ∧ d' = d) := by
  refine m_spec RX12 [some (.ref (xad W 240)), some (.int y), some (.int z), some (.int w), none, none, none, none, none, none, none] rfl (by decide +kernel) rfl rfl (fun K hR => ?_)
  by_cases h1 : y < nI 0 ∨ nI 20 < y
  · skip
    refine m_iload_n dX12_of_0 rfl ?_
    refine m_iconstN 0 dX12_of_1 (by decide) ?_
    refine m_bipushN 20 dX12_of_2 (by decide) ?_
    refine m_callSIp (s_X12_inN (x := y) (a := nI 0) (b := nI 20) h1) cs_X12_83 dX12_of_4 ?_
    refine m_if_eq 18 dX12_of_7 (by decide) (fun c7 => ?_) (fun c7 => by exfalso; exact c7 rfl)
    refine m_bipush (v := -3) dX12_of_18 (by decide) ?_
    exact m_iret (ty := .int) hR dX12_of_20 (⟨rfl, rfl⟩)
  · have hy1 : nI 0 ≤ y := Int32.not_lt.mp (fun q => h1 (Or.inl q))
    have hy2 : y ≤ nI 20 := Int32.not_lt.mp (fun q => h1 (Or.inr q))
    have h2 : z < 0 ∨ w < 0 := by
      rcases h with h | h | h
      · exact absurd (Or.inl h) h1
      · exact absurd (Or.inr h) h1
      · exact h
    by_cases hz : z < 0
    · skip
      refine m_iload_n dX12_of_0 rfl ?_
      refine m_iconstN 0 dX12_of_1 (by decide) ?_
      refine m_bipushN 20 dX12_of_2 (by decide) ?_
      refine m_callSIp (s_X12_inY (x := y) (a := nI 0) (b := nI 20) hy1 hy2) cs_X12_83 dX12_of_4 ?_
      refine m_if_eq 18 dX12_of_7 (by decide) (fun c7 => by exfalso; exact absurd c7 (by decide)) (fun c7 => ?_)
      refine m_iload_n dX12_of_10 rfl ?_
      refine m_if_lt 18 dX12_of_11 (by decide) (fun c11 => ?_) (fun c11 => by exfalso; exact c11 hz)
      refine m_bipush (v := -3) dX12_of_18 (by decide) ?_
      exact m_iret (ty := .int) hR dX12_of_20 (⟨rfl, rfl⟩)
    · skip
      refine m_iload_n dX12_of_0 rfl ?_
      refine m_iconstN 0 dX12_of_1 (by decide) ?_
      refine m_bipushN 20 dX12_of_2 (by decide) ?_
      refine m_callSIp (s_X12_inY (x := y) (a := nI 0) (b := nI 20) hy1 hy2) cs_X12_83 dX12_of_4 ?_
      refine m_if_eq 18 dX12_of_7 (by decide) (fun c7 => by exfalso; exact absurd c7 (by decide)) (fun c7 => ?_)
      refine m_iload_n dX12_of_10 rfl ?_
      refine m_if_lt 18 dX12_of_11 (by decide) (fun c11 => by exfalso; exact hz c11) (fun c11 => ?_)
      refine m_iload_n dX12_of_14 rfl ?_
      refine m_if_ge 21 dX12_of_15 (by decide) (fun c15 => by exfalso; exact absurd (h2.resolve_left hz) (Int32.not_lt.mpr c15)) (fun c15 => ?_)
      refine m_bipush (v := -3) dX12_of_18 (by decide) ?_
      exact m_iret (ty := .int) hR dX12_of_20 (⟨rfl, rfl⟩)
theorem s_X12_of {m i p : Nat} (hm : m ≤ 20) (hi : i < 2 ^ 31) (hp : p < 2 ^ 31) (hs : moSt d σ) : mSpecI l W mX12_of (dep + 2) [.ref (xad W 240), .int (nI m), .int (nI i), .int (nI p)] d (fun r d' => (r = if p < m ∧ i < fol σ.1 σ.2.1 m 0 then nI ((unr σ.1 σ.2.1 m 0 i).getD p 0) else -1) ∧ chg [257] d d') := by
  have hk := hs.1.2.2.2.1
  have h62 := six20
  have hfl := Nat.le_trans (fol_le (fb := σ.2.1) hk m 0) (six_le hm)
  have hL : isL W 257 1344 := ⟨by decide, by decide, fun _ => rfl⟩
  refine m_spec RX12 [some (.ref (xad W 240)), some (.int (nI m)), some (.int (nI i)), some (.int (nI p)), none, none, none, none, none, none, none] rfl (by decide +kernel) rfl rfl (fun K hR => ?_)
  have hl := hs.1
  generalize σ.1 = k at *
  generalize σ.2.1 = fb at *
  have loop : p < m → i < fol k fb m 0 → ∀ t, t ≤ p + 1 → ∀ d1 v pre b a o9 o10, pre.length = t → unr k fb m 0 i = pre ++ unr k fb (m - t) b a → (t = 0 ∨ v = nI (pre.getD (t - 1) 0)) → a < fol k fb (m - t) b → b < 64 → exIs d1 k fb m → chg [257] d d1 → mG W K cX12_of RX12 (dep + 2) d1 61 [some (.ref (xad W 240)), some (.int (nI m)), some (.int (nI i)), some (.int (nI p)), some (.long (lN a)), none, some (.int (nI b)), some (.int v), some (.int (nI t)), o9, o10] [] := fun hpn hif => x_up _ (fun t ht ih d1 v pre b a o9 o10 g1 g2 g3 g4 g5 g8 g9 => by
    have hl1 : moLet d1 k fb := hl.fr g9 (by simp) (by simp)
    by_cases htp : t < p + 1
    · have hmt : m - t = m - (t + 1) + 1 := by omega
      rw [hmt] at g2 g4
      rw [fol_s] at g4
      have hsix : 6 ^ (m - (t + 1)) ≤ 6 ^ 20 := six_le (by omega)
      have inner : ∀ x, x ≤ k → folS k fb (m - (t + 1)) b x ≤ a → x < k → mG W K cX12_of RX12 (dep + 2) d1 110 [some (.ref (xad W 240)), some (.int (nI m)), some (.int (nI i)), some (.int (nI p)), some (.long (lN (a - folS k fb (m - (t + 1)) b x))), none, some (.int (nI b)), some (.int (nI x)), some (.int (nI t)), some (.long (lN (folL k fb (m - (t + 1)) b x))), none] [] := x_up _ (fun x hx ihx hle hxk => by
        have hS := folS_s k fb (m - (t + 1)) b x
        have hSle := folS_le (fb := fb) hk (m - (t + 1)) b k
        have hLle := folL_le (fb := fb) hk (m - (t + 1)) b x
        have hk6 : k * 6 ^ (m - (t + 1)) ≤ 6 * 6 ^ 20 := Nat.mul_le_mul hk hsix
        have hmt1 : m - 1 - t = m - (t + 1) := by omega
        by_cases hlt : a < folS k fb (m - (t + 1)) b (x + 1)
        · skip
          refine m_lload dX12_of_110 rfl ?_
          refine m_lload dX12_of_112 rfl ?_
          first | refine m_lcmp_ltN 171 dX12_of_114 dX12_of_115 (by decide) (by omega) (by omega) (fun c114 => ?_) (fun c114 => by exfalso; omega) | refine m_lcmp_lt 171 dX12_of_114 dX12_of_115 (by decide) (fun c114 => ?_) (fun c114 => by exfalso; omega)
          refine m_aload_n dX12_of_171 rfl ?_
          refine m_iload dX12_of_172 rfl ?_
          refine m_iload dX12_of_174 rfl ?_
          refine m_callVIp (s_X12_barred hl1 (b := b) (x := x) (by omega)) cv_X12_254 dX12_of_176 ?_
          refine m_istore dX12_of_179 (Nat.le_of_ble_eq_true rfl) rfl ?_
          first | refine m_iincN 1 dX12_of_181 (by decide) rfl rfl ?_ | refine m_iinc dX12_of_181 rfl rfl ?_
          refine m_goto 61 dX12_of_184 (by decide) ?_
          refine ih htp d1 _ (pre ++ [x]) (bar fb b x) (a - folS k fb (m - (t + 1)) b x) _ _ (by simp; omega) (by rw [g2, unr_s hxk hle hlt]; simp) (Or.inr ?_) (folL_ge hle hlt).2 (Nat.lt_of_lt_of_le (bar_lt hl.2.2 (by omega) b) (show 2 ^ k ≤ 2 ^ 6 from Nat.pow_le_pow_right (by decide) hk)) g8 g9
          simp [List.getD, g1]
        · have hx1 : x + 1 < k := by
            refine Nat.lt_of_not_le (fun z => hlt ?_)
            rw [show x + 1 = k by omega]; exact g4
          have ihx2 := ihx (by omega) (by omega) hx1
          rw [show a - folS k fb (m - (t + 1)) b (x + 1) = a - folS k fb (m - (t + 1)) b x - folL k fb (m - (t + 1)) b x by omega] at ihx2
          have hbl6 : bar fb b (x + 1) < 2 ^ 6 := Nat.lt_of_lt_of_le (bar_lt (x := x + 1) hl.2.2 (by omega) b) (Nat.pow_le_pow_right (n := 2) (by decide) hk)
          cases hbt : b.testBit (x + 1) with
          | true =>
            rw [show folL k fb (m - (t + 1)) b (x + 1) = 0 from if_pos hbt] at ihx2
            refine m_lload dX12_of_110 rfl ?_
            refine m_lload dX12_of_112 rfl ?_
            first | refine m_lcmp_ltN 171 dX12_of_114 dX12_of_115 (by decide) (by omega) (by omega) (fun c114 => by exfalso; omega) (fun c114 => ?_) | refine m_lcmp_lt 171 dX12_of_114 dX12_of_115 (by decide) (fun c114 => by exfalso; omega) (fun c114 => ?_)
            refine m_lload dX12_of_118 rfl ?_
            refine m_lload dX12_of_120 rfl ?_
            first | refine m_lsubN dX12_of_122 (by omega) ?_ | refine m_lsub dX12_of_122 ?_
            refine m_lstore dX12_of_123 (Nat.le_of_ble_eq_true rfl) rfl ?_
            first | refine m_iincN 1 dX12_of_125 (by decide) rfl rfl ?_ | refine m_iinc dX12_of_125 rfl rfl ?_
            refine m_iload dX12_of_128 rfl ?_
            refine m_iload dX12_of_130 rfl ?_
            refine m_ishr dX12_of_132 ?_
            refine m_iconstN 1 dX12_of_133 (by decide) ?_
            refine m_iand dX12_of_134 ?_
            refine m_eqi ((by rw [nI_bit (by omega) (by omega), hbt]; rfl : _ = nI 1)) ?_
            refine m_iconstN 1 dX12_of_135 (by decide) ?_
            first | refine m_icmp_neN 143 dX12_of_136 (by decide) (by omega) (by omega) (fun c136 => by exfalso; exact c136 rfl) (fun c136 => ?_) | refine m_icmp_ne 143 dX12_of_136 (by decide) (fun c136 => by exfalso; exact c136 rfl) (fun c136 => ?_)
            refine m_lconstN 0 dX12_of_139 (by decide) ?_
            refine m_goto 166 dX12_of_140 (by decide) ?_
            refine m_lstore dX12_of_166 (Nat.le_of_ble_eq_true rfl) rfl ?_
            refine m_goto 110 dX12_of_168 (by decide) ?_
            exact ihx2
          | false =>
            rw [show folL k fb (m - (t + 1)) b (x + 1) = fol k fb (m - (t + 1)) (bar fb b (x + 1)) from if_neg (by rw [hbt]; decide)] at ihx2
            refine m_lload dX12_of_110 rfl ?_
            refine m_lload dX12_of_112 rfl ?_
            first | refine m_lcmp_ltN 171 dX12_of_114 dX12_of_115 (by decide) (by omega) (by omega) (fun c114 => by exfalso; omega) (fun c114 => ?_) | refine m_lcmp_lt 171 dX12_of_114 dX12_of_115 (by decide) (fun c114 => by exfalso; omega) (fun c114 => ?_)
            refine m_lload dX12_of_118 rfl ?_
            refine m_lload dX12_of_120 rfl ?_
            first | refine m_lsubN dX12_of_122 (by omega) ?_ | refine m_lsub dX12_of_122 ?_
            refine m_lstore dX12_of_123 (Nat.le_of_ble_eq_true rfl) rfl ?_
            first | refine m_iincN 1 dX12_of_125 (by decide) rfl rfl ?_ | refine m_iinc dX12_of_125 rfl rfl ?_
            refine m_iload dX12_of_128 rfl ?_
            refine m_iload dX12_of_130 rfl ?_
            refine m_ishr dX12_of_132 ?_
            refine m_iconstN 1 dX12_of_133 (by decide) ?_
            refine m_iand dX12_of_134 ?_
            refine m_eqi ((by rw [nI_bit (by omega) (by omega), hbt]; rfl : _ = nI 0)) ?_
            refine m_iconstN 1 dX12_of_135 (by decide) ?_
            first | refine m_icmp_neN 143 dX12_of_136 (by decide) (by omega) (by omega) (fun c136 => ?_) (fun c136 => by exfalso; exact c136 (by decide)) | refine m_icmp_ne 143 dX12_of_136 (by decide) (fun c136 => ?_) (fun c136 => by exfalso; exact c136 (by decide))
            refine m_aload_n dX12_of_143 rfl ?_
            refine m_get fl_X12_65 (by decide) rfl rfl dX12_of_144 ?_
            refine m_bipushN 64 dX12_of_147 (by decide) ?_
            refine m_iload_n dX12_of_149 rfl ?_
            refine m_iconstN 1 dX12_of_150 (by decide) ?_
            first | refine m_isubN dX12_of_151 (by omega) ?_ | refine m_isub dX12_of_151 ?_
            refine m_iload dX12_of_152 rfl ?_
            first | refine m_isubN dX12_of_154 (by omega) ?_ | refine m_isub dX12_of_154 ?_
            refine m_eqi ((by rw [hmt1] : _ = nI (m - (t + 1)))) ?_
            first | refine m_imulN dX12_of_155 ?_ | refine m_imul dX12_of_155 ?_
            refine m_aload_n dX12_of_156 rfl ?_
            refine m_iload dX12_of_157 rfl ?_
            refine m_iload dX12_of_159 rfl ?_
            refine m_callVIp (s_X12_barred hl1 (b := b) (x := x + 1) (by omega)) cv_X12_254 dX12_of_161 ?_
            first | refine m_iaddN dX12_of_164 ?_ | refine m_iadd dX12_of_164 ?_
            refine m_lald hL (by omega) dX12_of_165 ?_
            refine m_eql (g8 (m - (t + 1)) (by omega) (bar fb b (x + 1)) (by omega)) ?_
            refine m_lstore dX12_of_166 (Nat.le_of_ble_eq_true rfl) rfl ?_
            refine m_goto 110 dX12_of_168 (by decide) ?_
            exact ihx2
        )
      have hk1 := hl.2.2.1
      have in0 := inner 0 (Nat.zero_le _) (Nat.zero_le _) (by omega)
      have hmt1 : m - 1 - t = m - (t + 1) := by omega
      have hbl6 : bar fb b 0 < 2 ^ 6 := Nat.lt_of_lt_of_le (bar_lt (x := 0) hl.2.2 (by omega) b) (Nat.pow_le_pow_right (n := 2) (by decide) hk)
      cases hbt : b.testBit 0 with
      | true =>
        rw [show folL k fb (m - (t + 1)) b 0 = 0 from if_pos hbt] at in0
        refine m_iload dX12_of_61 rfl ?_
        refine m_iload_n dX12_of_63 rfl ?_
        first | refine m_icmp_gtN 187 dX12_of_64 (by decide) (by omega) (by omega) (fun c64 => by exfalso; omega) (fun c64 => ?_) | refine m_icmp_gt 187 dX12_of_64 (by decide) (fun c64 => by exfalso; omega) (fun c64 => ?_)
        refine m_iconstN 0 dX12_of_67 (by decide) ?_
        refine m_istore dX12_of_68 (Nat.le_of_ble_eq_true rfl) rfl ?_
        refine m_iload dX12_of_70 rfl ?_
        refine m_iload dX12_of_72 rfl ?_
        refine m_ishr dX12_of_74 ?_
        refine m_iconstN 1 dX12_of_75 (by decide) ?_
        refine m_iand dX12_of_76 ?_
        refine m_eqi ((by rw [nI_bit (by omega) (by omega), hbt]; rfl : _ = nI 1)) ?_
        refine m_iconstN 1 dX12_of_77 (by decide) ?_
        first | refine m_icmp_neN 85 dX12_of_78 (by decide) (by omega) (by omega) (fun c78 => by exfalso; exact c78 rfl) (fun c78 => ?_) | refine m_icmp_ne 85 dX12_of_78 (by decide) (fun c78 => by exfalso; exact c78 rfl) (fun c78 => ?_)
        refine m_lconstN 0 dX12_of_81 (by decide) ?_
        refine m_goto 108 dX12_of_82 (by decide) ?_
        refine m_lstore dX12_of_108 (Nat.le_of_ble_eq_true rfl) rfl ?_
        exact in0
      | false =>
        rw [show folL k fb (m - (t + 1)) b 0 = fol k fb (m - (t + 1)) (bar fb b 0) from if_neg (by rw [hbt]; decide)] at in0
        refine m_iload dX12_of_61 rfl ?_
        refine m_iload_n dX12_of_63 rfl ?_
        first | refine m_icmp_gtN 187 dX12_of_64 (by decide) (by omega) (by omega) (fun c64 => by exfalso; omega) (fun c64 => ?_) | refine m_icmp_gt 187 dX12_of_64 (by decide) (fun c64 => by exfalso; omega) (fun c64 => ?_)
        refine m_iconstN 0 dX12_of_67 (by decide) ?_
        refine m_istore dX12_of_68 (Nat.le_of_ble_eq_true rfl) rfl ?_
        refine m_iload dX12_of_70 rfl ?_
        refine m_iload dX12_of_72 rfl ?_
        refine m_ishr dX12_of_74 ?_
        refine m_iconstN 1 dX12_of_75 (by decide) ?_
        refine m_iand dX12_of_76 ?_
        refine m_eqi ((by rw [nI_bit (by omega) (by omega), hbt]; rfl : _ = nI 0)) ?_
        refine m_iconstN 1 dX12_of_77 (by decide) ?_
        first | refine m_icmp_neN 85 dX12_of_78 (by decide) (by omega) (by omega) (fun c78 => ?_) (fun c78 => by exfalso; exact c78 (by decide)) | refine m_icmp_ne 85 dX12_of_78 (by decide) (fun c78 => ?_) (fun c78 => by exfalso; exact c78 (by decide))
        refine m_aload_n dX12_of_85 rfl ?_
        refine m_get fl_X12_65 (by decide) rfl rfl dX12_of_86 ?_
        refine m_bipushN 64 dX12_of_89 (by decide) ?_
        refine m_iload_n dX12_of_91 rfl ?_
        refine m_iconstN 1 dX12_of_92 (by decide) ?_
        first | refine m_isubN dX12_of_93 (by omega) ?_ | refine m_isub dX12_of_93 ?_
        refine m_iload dX12_of_94 rfl ?_
        first | refine m_isubN dX12_of_96 (by omega) ?_ | refine m_isub dX12_of_96 ?_
        refine m_eqi ((by rw [hmt1] : _ = nI (m - (t + 1)))) ?_
        first | refine m_imulN dX12_of_97 ?_ | refine m_imul dX12_of_97 ?_
        refine m_aload_n dX12_of_98 rfl ?_
        refine m_iload dX12_of_99 rfl ?_
        refine m_iload dX12_of_101 rfl ?_
        refine m_callVIp (s_X12_barred hl1 (b := b) (x := 0) (by omega)) cv_X12_254 dX12_of_103 ?_
        first | refine m_iaddN dX12_of_106 ?_ | refine m_iadd dX12_of_106 ?_
        refine m_lald hL (by omega) dX12_of_107 ?_
        refine m_eql (g8 (m - (t + 1)) (by omega) (bar fb b 0) (by omega)) ?_
        refine m_lstore dX12_of_108 (Nat.le_of_ble_eq_true rfl) rfl ?_
        exact in0
    · have e6 : t = p + 1 := by omega
      subst e6
      refine m_iload dX12_of_61 rfl ?_
      refine m_iload_n dX12_of_63 rfl ?_
      first | refine m_icmp_gtN 187 dX12_of_64 (by decide) (by omega) (by omega) (fun c64 => ?_) (fun c64 => by exfalso; omega) | refine m_icmp_gt 187 dX12_of_64 (by decide) (fun c64 => ?_) (fun c64 => by exfalso; omega)
      refine m_iload dX12_of_187 rfl ?_
      exact m_iret (ty := .int) hR dX12_of_189 (⟨by
        rw [if_pos ⟨hpn, hif⟩]
        rcases g3 with z | z
        · omega
        · rw [z, g2, show p + 1 - 1 = p by omega]
          simp [List.getD, List.getElem?_append_left (show p < pre.length by omega)], g9⟩)
    )
  have hcond : ∀ d1, ¬ (p < m ∧ i < fol k fb m 0) → chg [257] d d1 → mG W K cX12_of RX12 (dep + 2) d1 46 [some (.ref (xad W 240)), some (.int (nI m)), some (.int (nI i)), some (.int (nI p)), none, none, none, none, none, none, none] [] := fun d1 hc g => by
    refine m_iconst (v := -1) dX12_of_46 (by decide) ?_
    exact m_iret (ty := .int) hR dX12_of_47 (⟨by rw [if_neg hc], g⟩)
  refine m_iload_n dX12_of_0 rfl ?_
  refine m_iconstN 0 dX12_of_1 (by decide) ?_
  refine m_bipushN 20 dX12_of_2 (by decide) ?_
  refine m_callSIp (s_X12_inY (x := nI m) (a := nI 0) (b := nI 20) ((nI_leI (by omega) (by omega)).mpr (by omega)) ((nI_leI (by omega) (by omega)).mpr (by omega))) cs_X12_83 dX12_of_4 ?_
  refine m_if_eq 18 dX12_of_7 (by decide) (fun c7 => by exfalso; exact absurd c7 (by decide)) (fun c7 => ?_)
  refine m_iload_n dX12_of_10 rfl ?_
  refine m_if_ltN 18 dX12_of_11 (by decide) (by omega) ?_
  refine m_iload_n dX12_of_14 rfl ?_
  refine m_if_geN 21 dX12_of_15 (by decide) (by omega) ?_
  refine m_aload_n dX12_of_21 rfl ?_
  refine m_iload_n dX12_of_22 rfl ?_
  refine m_callVV (s_X12_findExact hl hm) cv_X12_257 dX12_of_23 (fun d23 h23 => ?_)
  refine m_iload_n dX12_of_26 rfl ?_
  first | refine m_i2lN dX12_of_27 (by omega) ?_ | refine m_i2l dX12_of_27 ?_
  refine m_aload_n dX12_of_28 rfl ?_
  refine m_get fl_X12_65 (by decide) rfl rfl dX12_of_29 ?_
  refine m_bipushN 64 dX12_of_32 (by decide) ?_
  refine m_iload_n dX12_of_34 rfl ?_
  first | refine m_imulN dX12_of_35 ?_ | refine m_imul dX12_of_35 ?_
  refine m_lald hL (by omega) dX12_of_36 ?_
  refine m_eql ((by have := h23.1 m (Nat.le_refl _) 0 (by decide); rw [Nat.add_zero] at this; exact this : _ = lN (fol k fb m 0))) ?_
  first | refine m_lcmp_geN 46 dX12_of_37 dX12_of_38 (by decide) (by omega) (by omega) (fun c37 => ?_) (fun c37 => ?_) | refine m_lcmp_ge 46 dX12_of_37 dX12_of_38 (by decide) (fun c37 => ?_) (fun c37 => ?_)
  · exact hcond d23 (by omega) h23.2
  · refine m_iload_n dX12_of_41 rfl ?_
    refine m_iload_n dX12_of_42 rfl ?_
    first | refine m_icmp_ltN 48 dX12_of_43 (by decide) (by omega) (by omega) (fun c43 => ?_) (fun c43 => ?_) | refine m_icmp_lt 48 dX12_of_43 (by decide) (fun c43 => ?_) (fun c43 => ?_)
    · refine m_iload_n dX12_of_48 rfl ?_
      first | refine m_i2lN dX12_of_49 (by omega) ?_ | refine m_i2l dX12_of_49 ?_
      refine m_lstore dX12_of_50 (Nat.le_of_ble_eq_true rfl) rfl ?_
      refine m_iconstN 0 dX12_of_52 (by decide) ?_
      refine m_istore dX12_of_53 (Nat.le_of_ble_eq_true rfl) rfl ?_
      refine m_iconstN 0 dX12_of_55 (by decide) ?_
      refine m_istore dX12_of_56 (Nat.le_of_ble_eq_true rfl) rfl ?_
      refine m_iconstN 0 dX12_of_58 (by decide) ?_
      refine m_istore dX12_of_59 (Nat.le_of_ble_eq_true rfl) rfl ?_
      exact loop (by omega) (by omega) 0 (Nat.zero_le _) d23 _ [] 0 i _ _ rfl rfl (Or.inl rfl) (by simpa using Nat.lt_of_not_le c37) (by decide) h23.1 h23.2
    · exact hcond d23 (by omega) h23.2
theorem s_X12_placeO (hx : hN x = none) : mSpecI l W mX12_place (dep + 2) [.ref (xad W 240), .int x] d (fun r d' => r = -2 ∧ d' = d) := by
  refine m_spec RX12 [some (.ref (xad W 240)), some (.int x), none, none, none, none, none, none] rfl (by decide +kernel) rfl rfl (fun K hR => ?_)
  refine m_iload_n dX12_place_0 rfl ?_
  refine m_callSIp (s_X12_isHeapO hx) cs_X12_172 dX12_place_1 ?_
  refine m_if_ne 10 dX12_place_4 (by decide) (fun c4 => by exfalso; exact c4 rfl) (fun c4 => ?_)
  refine m_bipush (v := -2) dX12_place_7 (by decide) ?_
  exact m_iret (ty := .int) hR dX12_place_9 (⟨rfl, rfl⟩)
theorem s_X12_placeL (hx : hN x = some n) (hs : moSt d σ) (hl : ¬ (σ.2.2 n).length ≤ 20) : mSpecI l W mX12_place (dep + 2) [.ref (xad W 240), .int x] d (fun r d' => r = -3 ∧ d' = d) := by
  obtain ⟨hn, rfl⟩ := hN_some hx
  have h24 := (hs.2 n hn).2.1
  refine m_spec RX12 [some (.ref (xad W 240)), some (.int (nI n)), none, none, none, none, none, none] rfl (by decide +kernel) rfl rfl (fun K hR => ?_)
  refine m_iload_n dX12_place_0 rfl ?_
  refine m_callSIp (s_X12_isHeap hx) cs_X12_172 dX12_place_1 ?_
  refine m_if_ne 10 dX12_place_4 (by decide) (fun c4 => ?_) (fun c4 => by exfalso; exact c4 (by decide))
  refine m_aload_n dX12_place_10 rfl ?_
  refine m_get fl_X12_17 (by decide) rfl rfl dX12_place_11 ?_
  refine m_iload_n dX12_place_14 rfl ?_
  refine m_iald (by first | exact ⟨by decide, by decide, fun _ => rfl⟩ | exact isI_arr _ (by omega) | exact isI_mv _ (by omega) | exact isI_ne _ (by omega)) (by omega) dX12_place_15 ?_
  refine m_eqi ((hs.2 n hn).1) ?_
  refine m_bipushN 20 dX12_place_16 (by decide) ?_
  first | refine m_icmp_leN 24 dX12_place_18 (by decide) (by omega) (by omega) (fun c18 => by exfalso; omega) (fun c18 => ?_) | refine m_icmp_le 24 dX12_place_18 (by decide) (fun c18 => by exfalso; omega) (fun c18 => ?_)
  refine m_bipush (v := -3) dX12_place_21 (by decide) ?_
  exact m_iret (ty := .int) hR dX12_place_23 (⟨rfl, rfl⟩)
theorem s_X12_place (hx : hN x = some n) (hs : moSt d σ) (h20 : (σ.2.2 n).length ≤ 20) : mSpecI l W mX12_place (dep + 4) [.ref (xad W 240), .int x] d (fun r d' => r = nI (rnk σ.1 σ.2.1 0 (leastR (bw σ.1 σ.2.1) (σ.2.2 n)) % 1000000007) ∧ chg [246, 248, 249, 257] d d') := by
  obtain ⟨hn, rfl⟩ := hN_some hx
  obtain ⟨hA, hAl, hAg, hAx⟩ := hs.2 n hn
  have hk := hs.1.2.2.2.1
  have hI : isI W 246 48 := ⟨by decide, by decide, fun _ => rfl⟩
  have hI8 : isI W 248 48 := ⟨by decide, by decide, fun _ => rfl⟩
  have hL : isL W 257 1344 := ⟨by decide, by decide, fun _ => rfl⟩
  have hll := leastR_len (bw_ok hs.1.2.2 hAx)
  have hlx : ∀ x ∈ leastR (bw σ.1 σ.2.1) (σ.2.2 n), x < σ.1 := fun x hx => hAx x (leastR_mem hx)
  have hrk := rnk_le (fb := σ.2.1) hk (leastR (bw σ.1 σ.2.1) (σ.2.2 n)) 0 (by omega) (fun x hm => by have := hlx x hm; omega)
  have h62 := six20
  have hrb : rnk σ.1 σ.2.1 0 (leastR (bw σ.1 σ.2.1) (σ.2.2 n)) < 2 ^ 62 := by
    have : (leastR (bw σ.1 σ.2.1) (σ.2.2 n)).length * 6 ^ 20 ≤ 20 * 6 ^ 20 := Nat.mul_le_mul_right _ (by omega)
    omega
  refine m_spec RX12 [some (.ref (xad W 240)), some (.int (nI n)), none, none, none, none, none, none] rfl (by decide +kernel) rfl rfl (fun K hR => ?_)
  have hl := hs.1
  generalize hxs : leastR (bw σ.1 σ.2.1) (σ.2.2 n) = xs at *
  have outer : ∀ i, i ≤ xs.length → ∀ d1 b s o7, exIs d1 σ.1 σ.2.1 xs.length → b < 64 → arrB d1 248 xs → chg [246, 248, 249, 257] d d1 → s + rnk σ.1 σ.2.1 b (xs.drop i) = rnk σ.1 σ.2.1 0 xs → mG W K cX12_place RX12 (dep + 4) d1 63 [some (.ref (xad W 240)), some (.int (nI n)), some (.int (nI xs.length)), some (.long (lN s)), none, some (.int (nI b)), some (.int (nI i)), o7] [] := x_up _ (fun i hi ih d1 b s o7 g1 g2 g3 g4 g5 => by
    have hl1 := hl.fr g4 (by simp) (by simp)
    by_cases hin : i < xs.length
    · have hxi := hlx _ (List.getElem_mem hin)
      have hat : d1.1 248 i = nI xs[i] := by rw [g3 i hin, getD_at hin]
      rw [drop_c hin] at g5
      have er : rnk σ.1 σ.2.1 b (xs[i] :: xs.drop (i + 1)) = folS σ.1 σ.2.1 (xs.drop (i + 1)).length b xs[i] + rnk σ.1 σ.2.1 (bar σ.2.1 b xs[i]) (xs.drop (i + 1)) := rfl
      rw [er, List.length_drop] at g5
      have inner : ∀ x, x ≤ xs[i] → mG W K cX12_place RX12 (dep + 4) d1 72 [some (.ref (xad W 240)), some (.int (nI n)), some (.int (nI xs.length)), some (.long (lN (s + folS σ.1 σ.2.1 (xs.length - (i + 1)) b x))), none, some (.int (nI b)), some (.int (nI i)), some (.int (nI x))] [] := x_up _ (fun x hx ihx => by
        by_cases hxn : x < xs[i]
        · have ihx2 := ihx hxn
          rw [folS_s, ← Nat.add_assoc] at ihx2
          have hbl6 : bar σ.2.1 b x < 2 ^ 6 := Nat.lt_of_lt_of_le (bar_lt (x := x) hl.2.2 (by omega) b) (Nat.pow_le_pow_right (n := 2) (by decide) hk)
          cases hbt : b.testBit x with
          | true =>
            rw [show folL σ.1 σ.2.1 (xs.length - (i + 1)) b x = 0 from if_pos hbt, Nat.add_zero] at ihx2
            refine m_iload dX12_place_72 rfl ?_
            refine m_aload_n dX12_place_74 rfl ?_
            refine m_get fl_X12_35 (by decide) rfl rfl dX12_place_75 ?_
            refine m_iload dX12_place_78 rfl ?_
            refine m_iald (by first | exact ⟨by decide, by decide, fun _ => rfl⟩ | exact isI_arr _ (by omega) | exact isI_mv _ (by omega) | exact isI_ne _ (by omega)) (by omega) dX12_place_80 ?_
            refine m_eqi (hat) ?_
            first | refine m_icmp_geN 131 dX12_place_81 (by decide) (by omega) (by omega) (fun c81 => by exfalso; omega) (fun c81 => ?_) | refine m_icmp_ge 131 dX12_place_81 (by decide) (fun c81 => by exfalso; omega) (fun c81 => ?_)
            refine m_lload_n dX12_place_84 rfl ?_
            refine m_iload dX12_place_85 rfl ?_
            refine m_iload dX12_place_87 rfl ?_
            refine m_ishr dX12_place_89 ?_
            refine m_iconstN 1 dX12_place_90 (by decide) ?_
            refine m_iand dX12_place_91 ?_
            refine m_eqi ((by rw [nI_bit (by omega) (by omega), hbt]; rfl : _ = nI 1)) ?_
            refine m_iconstN 1 dX12_place_92 (by decide) ?_
            first | refine m_icmp_neN 100 dX12_place_93 (by decide) (by omega) (by omega) (fun c93 => by exfalso; exact c93 rfl) (fun c93 => ?_) | refine m_icmp_ne 100 dX12_place_93 (by decide) (fun c93 => by exfalso; exact c93 rfl) (fun c93 => ?_)
            refine m_lconstN 0 dX12_place_96 (by decide) ?_
            refine m_goto 123 dX12_place_97 (by decide) ?_
            first | refine m_laddN dX12_place_123 ?_ | refine m_ladd dX12_place_123 ?_
            refine m_lstore_n dX12_place_124 (Nat.le_of_ble_eq_true rfl) rfl ?_
            first | refine m_iincN 1 dX12_place_125 (by decide) rfl rfl ?_ | refine m_iinc dX12_place_125 rfl rfl ?_
            refine m_goto 72 dX12_place_128 (by decide) ?_
            exact ihx2
          | false =>
            rw [show folL σ.1 σ.2.1 (xs.length - (i + 1)) b x = fol σ.1 σ.2.1 (xs.length - (i + 1)) (bar σ.2.1 b x) from if_neg (by rw [hbt]; decide)] at ihx2
            refine m_iload dX12_place_72 rfl ?_
            refine m_aload_n dX12_place_74 rfl ?_
            refine m_get fl_X12_35 (by decide) rfl rfl dX12_place_75 ?_
            refine m_iload dX12_place_78 rfl ?_
            refine m_iald (by first | exact ⟨by decide, by decide, fun _ => rfl⟩ | exact isI_arr _ (by omega) | exact isI_mv _ (by omega) | exact isI_ne _ (by omega)) (by omega) dX12_place_80 ?_
            refine m_eqi (hat) ?_
            first | refine m_icmp_geN 131 dX12_place_81 (by decide) (by omega) (by omega) (fun c81 => by exfalso; omega) (fun c81 => ?_) | refine m_icmp_ge 131 dX12_place_81 (by decide) (fun c81 => by exfalso; omega) (fun c81 => ?_)
            refine m_lload_n dX12_place_84 rfl ?_
            refine m_iload dX12_place_85 rfl ?_
            refine m_iload dX12_place_87 rfl ?_
            refine m_ishr dX12_place_89 ?_
            refine m_iconstN 1 dX12_place_90 (by decide) ?_
            refine m_iand dX12_place_91 ?_
            refine m_eqi ((by rw [nI_bit (by omega) (by omega), hbt]; rfl : _ = nI 0)) ?_
            refine m_iconstN 1 dX12_place_92 (by decide) ?_
            first | refine m_icmp_neN 100 dX12_place_93 (by decide) (by omega) (by omega) (fun c93 => ?_) (fun c93 => by exfalso; exact c93 (by decide)) | refine m_icmp_ne 100 dX12_place_93 (by decide) (fun c93 => ?_) (fun c93 => by exfalso; exact c93 (by decide))
            refine m_aload_n dX12_place_100 rfl ?_
            refine m_get fl_X12_65 (by decide) rfl rfl dX12_place_101 ?_
            refine m_bipushN 64 dX12_place_104 (by decide) ?_
            refine m_iload_n dX12_place_106 rfl ?_
            refine m_iconstN 1 dX12_place_107 (by decide) ?_
            first | refine m_isubN dX12_place_108 (by omega) ?_ | refine m_isub dX12_place_108 ?_
            refine m_iload dX12_place_109 rfl ?_
            first | refine m_isubN dX12_place_111 (by omega) ?_ | refine m_isub dX12_place_111 ?_
            refine m_eqi ((by rw [show xs.length - 1 - i = xs.length - (i + 1) by omega] : _ = nI (xs.length - (i + 1)))) ?_
            first | refine m_imulN dX12_place_112 ?_ | refine m_imul dX12_place_112 ?_
            refine m_aload_n dX12_place_113 rfl ?_
            refine m_iload dX12_place_114 rfl ?_
            refine m_iload dX12_place_116 rfl ?_
            refine m_callVIp (s_X12_barred hl1 (b := b) (x := x) (by omega)) cv_X12_254 dX12_place_118 ?_
            first | refine m_iaddN dX12_place_121 ?_ | refine m_iadd dX12_place_121 ?_
            refine m_lald hL (by omega) dX12_place_122 ?_
            refine m_eql (g1 (xs.length - (i + 1)) (by omega) (bar σ.2.1 b x) (by omega)) ?_
            first | refine m_laddN dX12_place_123 ?_ | refine m_ladd dX12_place_123 ?_
            refine m_lstore_n dX12_place_124 (Nat.le_of_ble_eq_true rfl) rfl ?_
            first | refine m_iincN 1 dX12_place_125 (by decide) rfl rfl ?_ | refine m_iinc dX12_place_125 rfl rfl ?_
            refine m_goto 72 dX12_place_128 (by decide) ?_
            exact ihx2
        · have e6 : x = xs[i] := by omega
          rw [e6]
          refine m_iload dX12_place_72 rfl ?_
          refine m_aload_n dX12_place_74 rfl ?_
          refine m_get fl_X12_35 (by decide) rfl rfl dX12_place_75 ?_
          refine m_iload dX12_place_78 rfl ?_
          refine m_iald (by first | exact ⟨by decide, by decide, fun _ => rfl⟩ | exact isI_arr _ (by omega) | exact isI_mv _ (by omega) | exact isI_ne _ (by omega)) (by omega) dX12_place_80 ?_
          refine m_eqi (hat) ?_
          first | refine m_icmp_geN 131 dX12_place_81 (by decide) (by omega) (by omega) (fun c81 => ?_) (fun c81 => by exfalso; omega) | refine m_icmp_ge 131 dX12_place_81 (by decide) (fun c81 => ?_) (fun c81 => by exfalso; omega)
          refine m_aload_n dX12_place_131 rfl ?_
          refine m_iload dX12_place_132 rfl ?_
          refine m_aload_n dX12_place_134 rfl ?_
          refine m_get fl_X12_35 (by decide) rfl rfl dX12_place_135 ?_
          refine m_iload dX12_place_138 rfl ?_
          refine m_iald (by first | exact ⟨by decide, by decide, fun _ => rfl⟩ | exact isI_arr _ (by omega) | exact isI_mv _ (by omega) | exact isI_ne _ (by omega)) (by omega) dX12_place_140 ?_
          refine m_eqi (hat) ?_
          refine m_callVIp (s_X12_barred hl1 (b := b) (x := xs[i]) (by omega)) cv_X12_254 dX12_place_141 ?_
          refine m_istore dX12_place_144 (Nat.le_of_ble_eq_true rfl) rfl ?_
          first | refine m_iincN 1 dX12_place_146 (by decide) rfl rfl ?_ | refine m_iinc dX12_place_146 rfl rfl ?_
          refine m_goto 63 dX12_place_149 (by decide) ?_
          exact ih hin d1 _ _ _ g1 (Nat.lt_of_lt_of_le (bar_lt hl.2.2 (by omega) b) (show 2 ^ σ.1 ≤ 2 ^ 6 from Nat.pow_le_pow_right (by decide) hk)) g3 g4 (by omega)
        )
      refine m_iload dX12_place_63 rfl ?_
      refine m_iload_n dX12_place_65 rfl ?_
      first | refine m_icmp_geN 152 dX12_place_66 (by decide) (by omega) (by omega) (fun c66 => by exfalso; omega) (fun c66 => ?_) | refine m_icmp_ge 152 dX12_place_66 (by decide) (fun c66 => by exfalso; omega) (fun c66 => ?_)
      refine m_iconstN 0 dX12_place_69 (by decide) ?_
      refine m_istore dX12_place_70 (Nat.le_of_ble_eq_true rfl) rfl ?_
      exact inner 0 (Nat.zero_le _)
    · have e6 : i = xs.length := by omega
      rw [e6, List.drop_length] at g5
      have e7 : s = rnk σ.1 σ.2.1 0 xs := g5
      refine m_iload dX12_place_63 rfl ?_
      refine m_iload_n dX12_place_65 rfl ?_
      first | refine m_icmp_geN 152 dX12_place_66 (by decide) (by omega) (by omega) (fun c66 => ?_) (fun c66 => by exfalso; omega) | refine m_icmp_ge 152 dX12_place_66 (by decide) (fun c66 => ?_) (fun c66 => by exfalso; omega)
      refine m_lload_n dX12_place_152 rfl ?_
      refine m_ldc2 ct_X12_218 dX12_place_153 ?_
      refine m_eql (y := lN 1000000007) (by decide +kernel) ?_
      first | refine m_lremN dX12_place_156 (by omega) (by omega) (by omega) ?_ | refine m_lrem dX12_place_156 (by decide) ?_
      first | refine m_l2iN dX12_place_157 ?_ | refine m_l2i dX12_place_157 ?_
      exact m_iret (ty := .int) hR dX12_place_158 (⟨by rw [e7], g4⟩)
    )
  refine m_iload_n dX12_place_0 rfl ?_
  refine m_callSIp (s_X12_isHeap hx) cs_X12_172 dX12_place_1 ?_
  refine m_if_ne 10 dX12_place_4 (by decide) (fun c4 => ?_) (fun c4 => by exfalso; exact c4 (by decide))
  refine m_aload_n dX12_place_10 rfl ?_
  refine m_get fl_X12_17 (by decide) rfl rfl dX12_place_11 ?_
  refine m_iload_n dX12_place_14 rfl ?_
  refine m_iald (by first | exact ⟨by decide, by decide, fun _ => rfl⟩ | exact isI_arr _ (by omega) | exact isI_mv _ (by omega) | exact isI_ne _ (by omega)) (by omega) dX12_place_15 ?_
  refine m_eqi (hA) ?_
  refine m_bipushN 20 dX12_place_16 (by decide) ?_
  first | refine m_icmp_leN 24 dX12_place_18 (by decide) (by omega) (by omega) (fun c18 => ?_) (fun c18 => by exfalso; omega) | refine m_icmp_le 24 dX12_place_18 (by decide) (fun c18 => ?_) (fun c18 => by exfalso; omega)
  refine m_aload_n dX12_place_24 rfl ?_
  refine m_get fl_X12_17 (by decide) rfl rfl dX12_place_25 ?_
  refine m_iload_n dX12_place_28 rfl ?_
  refine m_iald (by first | exact ⟨by decide, by decide, fun _ => rfl⟩ | exact isI_arr _ (by omega) | exact isI_mv _ (by omega) | exact isI_ne _ (by omega)) (by omega) dX12_place_29 ?_
  refine m_eqi (hA) ?_
  refine m_istore_n dX12_place_30 (Nat.le_of_ble_eq_true rfl) rfl ?_
  refine m_aload_n dX12_place_31 rfl ?_
  refine m_iload_n dX12_place_32 rfl ?_
  refine m_aload_n dX12_place_33 rfl ?_
  refine m_get fl_X12_29 (by decide) rfl rfl dX12_place_34 ?_
  refine m_callVV (s_X12_take (o := 246) hI (by decide) hn hs) cv_X12_186 dX12_place_37 (fun d37 h37 => ?_)
  refine m_aload_n dX12_place_40 rfl ?_
  refine m_aload_n dX12_place_41 rfl ?_
  refine m_get fl_X12_29 (by decide) rfl rfl dX12_place_42 ?_
  refine m_iload_n dX12_place_45 rfl ?_
  refine m_callVI (s_X12_makeLeastOf hI (by decide) (hs.fr h37.2 (by simp) (by simp) (by simp) (by simp)).1 hAx (by omega) h37.1) cv_X12_190 dX12_place_46 (fun r46 d46 h46 => ?_)
  refine m_pop dX12_place_49 rfl ?_
  rw [hxs] at h46
  refine m_aload_n dX12_place_50 rfl ?_
  refine m_iload_n dX12_place_51 rfl ?_
  refine m_callVV (s_X12_findExact (m := (σ.2.2 n).length) ((hs.fr h37.2 (by simp) (by simp) (by simp) (by simp)).1.fr h46.2.2 (by simp) (by simp)) h20) cv_X12_257 dX12_place_52 (fun d52 h52 => ?_)
  refine m_lconstN 0 dX12_place_55 (by decide) ?_
  refine m_lstore_n dX12_place_56 (Nat.le_of_ble_eq_true rfl) rfl ?_
  refine m_iconstN 0 dX12_place_57 (by decide) ?_
  refine m_istore dX12_place_58 (Nat.le_of_ble_eq_true rfl) rfl ?_
  refine m_iconstN 0 dX12_place_60 (by decide) ?_
  refine m_istore dX12_place_61 (Nat.le_of_ble_eq_true rfl) rfl ?_
  rw [← hll] at h52 ⊢
  exact outer 0 (Nat.zero_le _) d52 0 0 _ h52.1 (by decide) (h46.2.1.fr h52.2 (by simp)) (((h37.2.mono (by simp)).tr (h46.2.2.mono (by simp))).tr (h52.2.mono (by simp))) (by rw [Nat.zero_add]; rfl)
end MOD
