/-! the law's model: parts -/
theorem bitsOf_s (xs : List Nat) (x : Nat) : bitsOf (xs ++ [x]) = bitsOf xs ||| 2 ^ x := by
  unfold bitsOf
  rw [List.foldl_append]
  show _ ||| 1 <<< x = _
  rw [Nat.one_shiftLeft]
theorem bitsOf_tb (xs : List Nat) (q : Nat) : (bitsOf xs).testBit q = decide (q ∈ xs) := by
  unfold bitsOf
  rw [bits_fold]; simp
theorem bitsOf_lt {xs : List Nat} (h : ∀ x ∈ xs, x < 6) : bitsOf xs < 64 := Nat.lt_pow_two_of_testBit (n := 6) _ (fun i hi => by
  rw [bitsOf_tb]
  exact decide_eq_false (fun z => by have := h i z; omega))
theorem trnQ_lt {fb : Nat → Nat} {A p s : Nat} (hs : s < 64) : ∀ n, n ≤ 6 → trnQ fb A p s n < 64 := by
  intro n
  induction n with
  | zero => intro _; exact hs
  | succ n ih =>
    intro hn
    rw [trnQ_s]
    split
    · exact Nat.or_lt_two_pow (n := 6) (ih (by omega)) (Nat.pow_lt_pow_right (by decide) (by omega))
    · exact ih (by omega)
theorem trnP_lt {fb : Nat → Nat} {A s : Nat} (hs : s < 64) : ∀ n, trnP fb A s n < 64 := by
  intro n
  induction n with
  | zero => exact hs
  | succ n ih => rw [trnP_s]; exact trnQ_lt ih 6 (Nat.le_refl 6)
theorem itT_lt {fb : Nat → Nat} {A s : Nat} (hs : s < 64) : ∀ n, itF (fun t => trnP fb A t 6) s n < 64 := by
  intro n
  induction n with
  | zero => exact hs
  | succ n ih => exact trnP_lt ih 6
theorem bt2 {b : Bool} (h : ¬ b.toNat = 1) : b = false := by cases b; rfl; exact absurd rfl h
theorem bt3 {b : Bool} (h : b.toNat = 1) : b = true := by cases b; cases h; rfl
theorem nI_andn : ∀ a, a < 64 → ∀ s, s < 64 → nI a &&& (nI s ^^^ -1) = nI (a &&& (63 ^^^ s)) := by decide +kernel
theorem andn_tb {a s : Nat} (ha : a < 64) (i : Nat) : (a &&& (63 ^^^ s)).testBit i = (a.testBit i && !s.testBit i) := by
  rw [Nat.testBit_and, Nat.testBit_xor]
  by_cases h : i < 6
  · rw [(by decide : ∀ i, i < 6 → Nat.testBit 63 i = true) i h, Bool.true_xor]
  · rw [Nat.testBit_lt_two_pow (Nat.lt_of_lt_of_le ha (Nat.pow_le_pow_right (n := 2) (by decide : 0 < 2) (by omega : 6 ≤ i)))]
    rfl
section MOD
variable {l : Launch} {W : xW} {dep : Nat} {d : xD} {bs : List Nat} {σ : St} {x y z w : Int32} {n n2 n3 k : Nat} {fb : Nat → Nat}
theorem s_X12_partO (hx : hN x = none) : mSpecI l W mX12_part (dep + 2) [.ref (xad W 240), .int x, .int y] d (fun r d' => r = -2 ∧ d' = d) := by
  refine m_spec RX12 [some (.ref (xad W 240)), some (.int x), some (.int y), none, none, none, none, none, none, none, none] rfl (by decide +kernel) rfl rfl (fun K hR => ?_)
  refine m_iload_n dX12_part_0 rfl ?_
  refine m_callSIp (s_X12_isHeapO hx) cs_X12_172 dX12_part_1 ?_
  refine m_if_ne 10 dX12_part_4 (by decide) (fun c4 => by exfalso; exact c4 rfl) (fun c4 => ?_)
  refine m_bipush (v := -2) dX12_part_7 (by decide) ?_
  exact m_iret (ty := .int) hR dX12_part_9 (⟨rfl, rfl⟩)
theorem s_X12_partN (hy : y < -1) (hx : hN x = some n) : mSpecI l W mX12_part (dep + 2) [.ref (xad W 240), .int x, .int y] d (fun r d' => r = -3 ∧ d' = d) := by
  refine m_spec RX12 [some (.ref (xad W 240)), some (.int x), some (.int y), none, none, none, none, none, none, none, none] rfl (by decide +kernel) rfl rfl (fun K hR => ?_)
  refine m_iload_n dX12_part_0 rfl ?_
  refine m_callSIp (s_X12_isHeap hx) cs_X12_172 dX12_part_1 ?_
  refine m_if_ne 10 dX12_part_4 (by decide) (fun c4 => ?_) (fun c4 => by exfalso; exact c4 (by decide))
  refine m_iload_n dX12_part_10 rfl ?_
  refine m_iconst (v := -1) dX12_part_11 (by decide) ?_
  refine m_icmp_ge 18 dX12_part_12 (by decide) (fun c12 => by exfalso; exact absurd hy (Int32.not_lt.mpr c12)) (fun c12 => ?_)
  refine m_bipush (v := -3) dX12_part_15 (by decide) ?_
  exact m_iret (ty := .int) hR dX12_part_17 (⟨rfl, rfl⟩)
/-- one part: from 80 on to 191 -/
theorem part_round {K : xK} {A L m : Nat} {y : Int32} (hl : moLet d k fb) (hA : A < 64) (hL : L < 6) (hm : m < 32) (kk : ∀ o7 o8 o9 o10, mG W K cX12_part RX12 (dep + 2) d 191 [some (.ref (xad W 240)), some (.int x), some (.int y), some (.int (nI A)), some (.int (nI m)), some (.int (nI L)), some (.int (nI (itF (fun t => trnP fb A t 6) (2 ^ L) 6))), o7, o8, o9, o10] []) (o6 o7 o8 o9 o10 : Option Value) : mG W K cX12_part RX12 (dep + 2) d 80 [some (.ref (xad W 240)), some (.int x), some (.int y), some (.int (nI A)), some (.int (nI m)), some (.int (nI L)), o6, o7, o8, o9, o10] [] := by
  have loopT : ∀ t, t ≤ 6 → ∀ o8 o9 o10, mG W K cX12_part RX12 (dep + 2) d 89 [some (.ref (xad W 240)), some (.int x), some (.int y), some (.int (nI A)), some (.int (nI m)), some (.int (nI L)), some (.int (nI (itF (fun t => trnP fb A t 6) (2 ^ L) t))), some (.int (nI t)), o8, o9, o10] [] := x_up _ (fun t ht iht o8 o9 o10 => by
    have hS : itF (fun t => trnP fb A t 6) (2 ^ L) t < 64 := itT_lt (p2_lt hL) t
    by_cases ht6 : t < 6
    · have iht2 : ∀ o8 o9 o10, mG W K cX12_part RX12 (dep + 2) d 89 [some (.ref (xad W 240)), some (.int x), some (.int y), some (.int (nI A)), some (.int (nI m)), some (.int (nI L)), some (.int (nI (trnP fb A (itF (fun t => trnP fb A t 6) (2 ^ L) t) 6))), some (.int (nI (t + 1))), o8, o9, o10] [] := iht ht6
      generalize itF (fun t => trnP fb A t 6) (2 ^ L) t = S at *
      have loopP : ∀ p, p ≤ 6 → ∀ o9 o10, mG W K cX12_part RX12 (dep + 2) d 99 [some (.ref (xad W 240)), some (.int x), some (.int y), some (.int (nI A)), some (.int (nI m)), some (.int (nI L)), some (.int (nI (trnP fb A S p))), some (.int (nI t)), some (.int (nI p)), o9, o10] [] := x_up _ (fun p hp ihp o9 o10 => by
        have hS2 : trnP fb A S p < 64 := trnP_lt hS p
        by_cases hp6 : p < 6
        · have ihp2 := ihp hp6
          rw [trnP_s] at ihp2
          generalize trnP fb A S p = S2 at *
          have loopQ : ∀ q, q ≤ 6 → ∀ o10, mG W K cX12_part RX12 (dep + 2) d 109 [some (.ref (xad W 240)), some (.int x), some (.int y), some (.int (nI A)), some (.int (nI m)), some (.int (nI L)), some (.int (nI (trnQ fb A p S2 q))), some (.int (nI t)), some (.int (nI p)), some (.int (nI q)), o10] [] := x_up _ (fun q hq ihq o10 => by
            have hS3 : trnQ fb A p S2 q < 64 := trnQ_lt hS2 q hq
            by_cases hq6 : q < 6
            · have ihq2 := ihq hq6
              rw [trnQ_s] at ihq2
              generalize trnQ fb A p S2 q = S3 at *
              have b1 := Bool.toNat_lt (S3.testBit p)
              have b2 := Bool.toNat_lt (A.testBit q)
              refine m_iload dX12_part_109 rfl ?_
              refine m_bipushN 6 dX12_part_111 (by decide) ?_
              first | refine m_icmp_geN 179 dX12_part_113 (by decide) (by omega) (by omega) (fun c113 => by exfalso; omega) (fun c113 => ?_) | refine m_icmp_ge 179 dX12_part_113 (by decide) (fun c113 => by exfalso; omega) (fun c113 => ?_)
              refine m_iload dX12_part_116 rfl ?_
              refine m_iload dX12_part_118 rfl ?_
              refine m_ishr dX12_part_120 ?_
              refine m_iconstN 1 dX12_part_121 (by decide) ?_
              refine m_iand dX12_part_122 ?_
              refine m_eqi (nI_bit (by omega) (by omega)) ?_
              refine m_iconstN 1 dX12_part_123 (by decide) ?_
              first | refine m_icmp_neN 152 dX12_part_124 (by decide) (by omega) (by omega) (fun c124 => ?_) (fun c124 => ?_) | refine m_icmp_ne 152 dX12_part_124 (by decide) (fun c124 => ?_) (fun c124 => ?_)
              · refine m_iconstN 0 dX12_part_152 (by decide) ?_
                refine m_istore dX12_part_153 (Nat.le_of_ble_eq_true rfl) rfl ?_
                refine m_iload dX12_part_155 rfl ?_
                refine m_iload dX12_part_157 rfl ?_
                first | refine m_if_eqN 169 dX12_part_159 (by decide) (by omega) (fun c159 => ?_) (fun c159 => by exfalso; exact c159 rfl) | refine m_if_eq 169 dX12_part_159 (by decide) (fun c159 => ?_) (fun c159 => by exfalso; exact c159 rfl)
                refine m_iconstN 0 dX12_part_169 (by decide) ?_
                refine m_ior dX12_part_170 ?_
                refine m_eqi (nI_or _ _) ?_
                refine m_istore dX12_part_171 (Nat.le_of_ble_eq_true rfl) rfl ?_
                first | refine m_iincN 1 dX12_part_173 (by decide) rfl rfl ?_ | refine m_iinc dX12_part_173 rfl rfl ?_
                refine m_goto 109 dX12_part_176 (by decide) ?_
                rw [Nat.or_zero]
                rw [if_neg (by rw [bt2 c124]; simp)] at ihq2
                exact ihq2 _
              · refine m_iload_n dX12_part_127 rfl ?_
                refine m_iload dX12_part_128 rfl ?_
                refine m_ishr dX12_part_130 ?_
                refine m_iconstN 1 dX12_part_131 (by decide) ?_
                refine m_iand dX12_part_132 ?_
                refine m_eqi (nI_bit (by omega) (by omega)) ?_
                refine m_iconstN 1 dX12_part_133 (by decide) ?_
                first | refine m_icmp_neN 152 dX12_part_134 (by decide) (by omega) (by omega) (fun c134 => ?_) (fun c134 => ?_) | refine m_icmp_ne 152 dX12_part_134 (by decide) (fun c134 => ?_) (fun c134 => ?_)
                · refine m_iconstN 0 dX12_part_152 (by decide) ?_
                  refine m_istore dX12_part_153 (Nat.le_of_ble_eq_true rfl) rfl ?_
                  refine m_iload dX12_part_155 rfl ?_
                  refine m_iload dX12_part_157 rfl ?_
                  first | refine m_if_eqN 169 dX12_part_159 (by decide) (by omega) (fun c159 => ?_) (fun c159 => by exfalso; exact c159 rfl) | refine m_if_eq 169 dX12_part_159 (by decide) (fun c159 => ?_) (fun c159 => by exfalso; exact c159 rfl)
                  refine m_iconstN 0 dX12_part_169 (by decide) ?_
                  refine m_ior dX12_part_170 ?_
                  refine m_eqi (nI_or _ _) ?_
                  refine m_istore dX12_part_171 (Nat.le_of_ble_eq_true rfl) rfl ?_
                  first | refine m_iincN 1 dX12_part_173 (by decide) rfl rfl ?_ | refine m_iinc dX12_part_173 rfl rfl ?_
                  refine m_goto 109 dX12_part_176 (by decide) ?_
                  rw [Nat.or_zero]
                  rw [if_neg (by rw [bt2 c134]; simp)] at ihq2
                  exact ihq2 _
                · refine m_aload_n dX12_part_137 rfl ?_
                  refine m_iload dX12_part_138 rfl ?_
                  refine m_iload dX12_part_140 rfl ?_
                  refine m_callVIp (s_X12_areFree hl hp6 hq6) cv_X12_168 dX12_part_142 ?_
                  refine m_if_ne 152 dX12_part_145 (by decide) (fun c145 => ?_) (fun c145 => ?_)
                  · refine m_iconstN 0 dX12_part_152 (by decide) ?_
                    refine m_istore dX12_part_153 (Nat.le_of_ble_eq_true rfl) rfl ?_
                    refine m_iload dX12_part_155 rfl ?_
                    refine m_iload dX12_part_157 rfl ?_
                    first | refine m_if_eqN 169 dX12_part_159 (by decide) (by omega) (fun c159 => ?_) (fun c159 => by exfalso; exact c159 rfl) | refine m_if_eq 169 dX12_part_159 (by decide) (fun c159 => ?_) (fun c159 => by exfalso; exact c159 rfl)
                    refine m_iconstN 0 dX12_part_169 (by decide) ?_
                    refine m_ior dX12_part_170 ?_
                    refine m_eqi (nI_or _ _) ?_
                    refine m_istore dX12_part_171 (Nat.le_of_ble_eq_true rfl) rfl ?_
                    first | refine m_iincN 1 dX12_part_173 (by decide) rfl rfl ?_ | refine m_iinc dX12_part_173 rfl rfl ?_
                    refine m_goto 109 dX12_part_176 (by decide) ?_
                    rw [Nat.or_zero]
                    rw [if_neg (by rw [show (fb p).testBit q = true from Decidable.byContradiction (fun z => c145 (by rw [if_neg z])), Bool.not_true, Bool.and_false]; decide)] at ihq2
                    exact ihq2 _
                  · refine m_iconstN 1 dX12_part_148 (by decide) ?_
                    refine m_goto 153 dX12_part_149 (by decide) ?_
                    refine m_istore dX12_part_153 (Nat.le_of_ble_eq_true rfl) rfl ?_
                    refine m_iload dX12_part_155 rfl ?_
                    refine m_iload dX12_part_157 rfl ?_
                    first | refine m_if_eqN 169 dX12_part_159 (by decide) (by omega) (fun c159 => by exfalso; exact absurd c159 (by decide)) (fun c159 => ?_) | refine m_if_eq 169 dX12_part_159 (by decide) (fun c159 => by exfalso; exact absurd c159 (by decide)) (fun c159 => ?_)
                    refine m_iconstN 1 dX12_part_162 (by decide) ?_
                    refine m_iload dX12_part_163 rfl ?_
                    refine m_ishl dX12_part_165 ?_
                    refine m_eqi (nI_sb1 q hq6) ?_
                    refine m_goto 170 dX12_part_166 (by decide) ?_
                    refine m_ior dX12_part_170 ?_
                    refine m_eqi (nI_or _ _) ?_
                    refine m_istore dX12_part_171 (Nat.le_of_ble_eq_true rfl) rfl ?_
                    first | refine m_iincN 1 dX12_part_173 (by decide) rfl rfl ?_ | refine m_iinc dX12_part_173 rfl rfl ?_
                    refine m_goto 109 dX12_part_176 (by decide) ?_
                    rw [if_pos (by rw [bt3 (Decidable.not_not.mp c124), bt3 (Decidable.not_not.mp c134), show (fb p).testBit q = false from Bool.eq_false_iff.mpr (fun z => c145 (by rw [if_pos z]; decide))]; rfl)] at ihq2
                    exact ihq2 _
            · have e6 : q = 6 := by omega
              subst e6
              refine m_iload dX12_part_109 rfl ?_
              refine m_bipushN 6 dX12_part_111 (by decide) ?_
              first | refine m_icmp_geN 179 dX12_part_113 (by decide) (by omega) (by omega) (fun c113 => ?_) (fun c113 => by exfalso; omega) | refine m_icmp_ge 179 dX12_part_113 (by decide) (fun c113 => ?_) (fun c113 => by exfalso; omega)
              first | refine m_iincN 1 dX12_part_179 (by decide) rfl rfl ?_ | refine m_iinc dX12_part_179 rfl rfl ?_
              refine m_goto 99 dX12_part_182 (by decide) ?_
              exact ihp2 _ _
            )
          refine m_iload dX12_part_99 rfl ?_
          refine m_bipushN 6 dX12_part_101 (by decide) ?_
          first | refine m_icmp_geN 185 dX12_part_103 (by decide) (by omega) (by omega) (fun c103 => by exfalso; omega) (fun c103 => ?_) | refine m_icmp_ge 185 dX12_part_103 (by decide) (fun c103 => by exfalso; omega) (fun c103 => ?_)
          refine m_iconstN 0 dX12_part_106 (by decide) ?_
          refine m_istore dX12_part_107 (Nat.le_of_ble_eq_true rfl) rfl ?_
          exact loopQ 0 (by decide) _
        · have e6 : p = 6 := by omega
          subst e6
          refine m_iload dX12_part_99 rfl ?_
          refine m_bipushN 6 dX12_part_101 (by decide) ?_
          first | refine m_icmp_geN 185 dX12_part_103 (by decide) (by omega) (by omega) (fun c103 => ?_) (fun c103 => by exfalso; omega) | refine m_icmp_ge 185 dX12_part_103 (by decide) (fun c103 => ?_) (fun c103 => by exfalso; omega)
          first | refine m_iincN 1 dX12_part_185 (by decide) rfl rfl ?_ | refine m_iinc dX12_part_185 rfl rfl ?_
          refine m_goto 89 dX12_part_188 (by decide) ?_
          exact iht2 _ _ _
        )
      refine m_iload dX12_part_89 rfl ?_
      refine m_bipushN 6 dX12_part_91 (by decide) ?_
      first | refine m_icmp_geN 191 dX12_part_93 (by decide) (by omega) (by omega) (fun c93 => by exfalso; omega) (fun c93 => ?_) | refine m_icmp_ge 191 dX12_part_93 (by decide) (fun c93 => by exfalso; omega) (fun c93 => ?_)
      refine m_iconstN 0 dX12_part_96 (by decide) ?_
      refine m_istore dX12_part_97 (Nat.le_of_ble_eq_true rfl) rfl ?_
      exact loopP 0 (by decide) _ _
    · have e6 : t = 6 := by omega
      subst e6
      refine m_iload dX12_part_89 rfl ?_
      refine m_bipushN 6 dX12_part_91 (by decide) ?_
      first | refine m_icmp_geN 191 dX12_part_93 (by decide) (by omega) (by omega) (fun c93 => ?_) (fun c93 => by exfalso; omega) | refine m_icmp_ge 191 dX12_part_93 (by decide) (fun c93 => ?_) (fun c93 => by exfalso; omega)
      exact kk _ _ _ _
    )
  refine m_iconstN 1 dX12_part_80 (by decide) ?_
  refine m_iload dX12_part_81 rfl ?_
  refine m_ishl dX12_part_83 ?_
  refine m_eqi (nI_sb1 L hL) ?_
  refine m_istore dX12_part_84 (Nat.le_of_ble_eq_true rfl) rfl ?_
  refine m_iconstN 0 dX12_part_86 (by decide) ?_
  refine m_istore dX12_part_87 (Nat.le_of_ble_eq_true rfl) rfl ?_
  exact loopT 0 (by decide) _ _ _
theorem part_bits {K : xK} {y : Int32} (hn : n < 4) (hs : moSt d σ) (kk : ∀ o6 o7 o8 o9 o10, mG W K cX12_part RX12 (dep + 2) d 63 [some (.ref (xad W 240)), some (.int (nI n)), some (.int y), some (.int (nI (bitsOf (σ.2.2 n)))), some (.int (nI 0)), some (.int (nI 0)), o6, o7, o8, o9, o10] []) : mG W K cX12_part RX12 (dep + 2) d 18 [some (.ref (xad W 240)), some (.int (nI n)), some (.int y), none, none, none, none, none, none, none, none] [] := by
  obtain ⟨hA, hAl, hAg, hAx⟩ := hs.2 n hn
  have hk := hs.1.2.2.2.1
  have loop : ∀ i, i ≤ (σ.2.2 n).length → mG W K cX12_part RX12 (dep + 2) d 23 [some (.ref (xad W 240)), some (.int (nI n)), some (.int y), some (.int (nI (bitsOf ((σ.2.2 n).take i)))), some (.int (nI i)), none, none, none, none, none, none] [] := x_up _ (fun i hi ih => by
    by_cases hin : i < (σ.2.2 n).length
    · have hx6 := hAx _ (List.getElem_mem hin)
      have ih2 := ih hin
      rw [take_s hin, bitsOf_s] at ih2
      refine m_iload dX12_part_23 rfl ?_
      refine m_aload_n dX12_part_25 rfl ?_
      refine m_get fl_X12_17 (by decide) rfl rfl dX12_part_26 ?_
      refine m_iload_n dX12_part_29 rfl ?_
      refine m_iald (by first | exact ⟨by decide, by decide, fun _ => rfl⟩ | exact isI_arr _ (by omega) | exact isI_mv _ (by omega) | exact isI_ne _ (by omega)) (by omega) dX12_part_30 ?_
      refine m_eqi (hA) ?_
      first | refine m_icmp_geN 57 dX12_part_31 (by decide) (by omega) (by omega) (fun c31 => by exfalso; omega) (fun c31 => ?_) | refine m_icmp_ge 57 dX12_part_31 (by decide) (fun c31 => by exfalso; omega) (fun c31 => ?_)
      refine m_iload_n dX12_part_34 rfl ?_
      refine m_iconstN 1 dX12_part_35 (by decide) ?_
      refine m_aload_n dX12_part_36 rfl ?_
      refine m_get fl_X12_20 (by decide) rfl rfl dX12_part_37 ?_
      refine m_bipushN 24 dX12_part_40 (by decide) ?_
      refine m_iload_n dX12_part_42 rfl ?_
      first | refine m_imulN dX12_part_43 ?_ | refine m_imul dX12_part_43 ?_
      refine m_iload dX12_part_44 rfl ?_
      first | refine m_iaddN dX12_part_46 ?_ | refine m_iadd dX12_part_46 ?_
      refine m_iald (by first | exact ⟨by decide, by decide, fun _ => rfl⟩ | exact isI_arr _ (by omega) | exact isI_mv _ (by omega) | exact isI_ne _ (by omega)) (by omega) dX12_part_47 ?_
      refine m_eqi ((by rw [hAg i hin, getD_at hin] : _ = nI (σ.2.2 n)[i])) ?_
      refine m_ishl dX12_part_48 ?_
      refine m_eqi (nI_sb1 _ (by omega)) ?_
      refine m_ior dX12_part_49 ?_
      refine m_eqi (nI_or _ _) ?_
      refine m_istore_n dX12_part_50 (Nat.le_of_ble_eq_true rfl) rfl ?_
      first | refine m_iincN 1 dX12_part_51 (by decide) rfl rfl ?_ | refine m_iinc dX12_part_51 rfl rfl ?_
      refine m_goto 23 dX12_part_54 (by decide) ?_
      exact ih2
    · have e6 : i = (σ.2.2 n).length := by omega
      rw [e6, List.take_length]
      refine m_iload dX12_part_23 rfl ?_
      refine m_aload_n dX12_part_25 rfl ?_
      refine m_get fl_X12_17 (by decide) rfl rfl dX12_part_26 ?_
      refine m_iload_n dX12_part_29 rfl ?_
      refine m_iald (by first | exact ⟨by decide, by decide, fun _ => rfl⟩ | exact isI_arr _ (by omega) | exact isI_mv _ (by omega) | exact isI_ne _ (by omega)) (by omega) dX12_part_30 ?_
      refine m_eqi (hA) ?_
      first | refine m_icmp_geN 57 dX12_part_31 (by decide) (by omega) (by omega) (fun c31 => ?_) (fun c31 => by exfalso; omega) | refine m_icmp_ge 57 dX12_part_31 (by decide) (fun c31 => ?_) (fun c31 => by exfalso; omega)
      refine m_iconstN 0 dX12_part_57 (by decide) ?_
      refine m_istore dX12_part_58 (Nat.le_of_ble_eq_true rfl) rfl ?_
      refine m_iconstN 0 dX12_part_60 (by decide) ?_
      refine m_istore dX12_part_61 (Nat.le_of_ble_eq_true rfl) rfl ?_
      exact kk _ _ _ _ _
    )
  refine m_iconstN 0 dX12_part_18 (by decide) ?_
  refine m_istore_n dX12_part_19 (Nat.le_of_ble_eq_true rfl) rfl ?_
  refine m_iconstN 0 dX12_part_20 (by decide) ?_
  refine m_istore dX12_part_21 (Nat.le_of_ble_eq_true rfl) rfl ?_
  exact loop 0 (Nat.zero_le _)
theorem s_X12_part {m : Nat} (hm : m < 2 ^ 31) (hx : hN x = some n) (hs : moSt d σ) : mSpecI l W mX12_part (dep + 2) [.ref (xad W 240), .int x, .int (nI m)] d (fun r d' => r = optI ((partsF σ.1 σ.2.1 (bitsOf (σ.2.2 n)) σ.1).2[m]?) ∧ d' = d) := by
  obtain ⟨hn, rfl⟩ := hN_some hx
  obtain ⟨hA, hAl, hAg, hAx⟩ := hs.2 n hn
  have hk := hs.1.2.2.2.1
  have hf := hs.1.2.2
  have hpr : ∀ i, (bitsOf (σ.2.2 n)).testBit i = true → i < σ.1 := fun i hi => by rw [bitsOf_tb] at hi; exact hAx i (of_decide_eq_true hi)
  have hm1 : ¬ nI m = -1 := nI_m1 hm
  refine m_spec RX12 [some (.ref (xad W 240)), some (.int (nI n)), some (.int (nI m)), none, none, none, none, none, none, none, none] rfl (by decide +kernel) rfl rfl (fun K hR => ?_)
  have hlt := bitsOf_lt (xs := σ.2.2 n) (fun x hx => by have := hAx x hx; omega)
  have hk6 := partsF_k (k := σ.1) (fb := σ.2.1) hpr (6 - σ.1)
  rw [show σ.1 + (6 - σ.1) = 6 by omega] at hk6
  have hbits := fun kk => part_bits (W := W) (dep := dep) (K := K) (y := nI m) hn hs kk
  generalize bitsOf (σ.2.2 n) = pr at *
  have loop : ∀ L, L ≤ 6 → ∀ A o6 o7 o8 o9 o10, A < 64 → leftP σ.2.1 pr (partsF σ.1 σ.2.1 pr L).1 A → (partsF σ.1 σ.2.1 pr L).2.length ≤ m → mG W K cX12_part RX12 (dep + 2) d 63 [some (.ref (xad W 240)), some (.int (nI n)), some (.int (nI m)), some (.int (nI A)), some (.int (nI (partsF σ.1 σ.2.1 pr L).2.length)), some (.int (nI L)), o6, o7, o8, o9, o10] [] := x_up _ (fun L hL ih A o6 o7 o8 o9 o10 hA64 h1 h2 => by
    have hpl := partsF_len σ.1 σ.2.1 pr L
    by_cases hL6 : L < 6
    · have ih2 := ih hL6
      rw [partsF_s] at ih2
      unfold parts1 at ih2
      rw [← h1.1 L] at ih2
      by_cases hb : A.testBit L = true
      · have hset := h1.set hf hpr hb
        have hh64 : hang σ.1 σ.2.1 pr L < 64 := hang_lt hk hL6
        rw [if_pos hb] at ih2
        have hLk : L < σ.1 := hpr L (by have h9 := h1.1 L; rw [hb] at h9; exact (Bool.and_eq_true _ _ ▸ h9.symm : _ ∧ _).1)
        have hlast : (partsF σ.1 σ.2.1 pr L).2.length = m → (partsF σ.1 σ.2.1 pr σ.1).2[m]? = some (hang σ.1 σ.2.1 pr L) := fun e => by
          have hp := partsF_pre σ.1 σ.2.1 pr (show L + 1 ≤ σ.1 by omega)
          obtain ⟨t, ht⟩ := hp
          rw [← ht, partsF_s]
          unfold parts1
          rw [← h1.1 L, if_pos hb]
          show ((_ ++ [_]) ++ t)[m]? = _
          rw [List.append_assoc, List.getElem?_append_right (by omega), e, Nat.sub_self]
          rfl
        have hround := part_round (W := W) (dep := dep) (x := nI n) (K := K) (y := nI m) (L := L) (m := (partsF σ.1 σ.2.1 pr L).2.length) hs.1 hA64 hL6 (by omega) (fun o7 o8 o9 o10 => by
          rw [hset]
          refine m_iload_n dX12_part_191 rfl ?_
          refine m_iload dX12_part_192 rfl ?_
          refine m_iconst (v := -1) dX12_part_194 (by decide) ?_
          refine m_ixor dX12_part_195 ?_
          refine m_iand dX12_part_196 ?_
          refine m_eqi (nI_andn A hA64 _ hh64) ?_
          refine m_istore_n dX12_part_197 (Nat.le_of_ble_eq_true rfl) rfl ?_
          refine m_iload dX12_part_198 rfl ?_
          refine m_iload_n dX12_part_200 rfl ?_
          first | refine m_icmp_neN 207 dX12_part_201 (by decide) (by omega) (by omega) (fun c201 => ?_) (fun c201 => ?_) | refine m_icmp_ne 207 dX12_part_201 (by decide) (fun c201 => ?_) (fun c201 => ?_)
          · first | refine m_iincN 1 dX12_part_207 (by decide) rfl rfl ?_ | refine m_iinc dX12_part_207 rfl rfl ?_
            first | refine m_iincN 1 dX12_part_210 (by decide) rfl rfl ?_ | refine m_iinc dX12_part_210 rfl rfl ?_
            refine m_goto 63 dX12_part_213 (by decide) ?_
            have ih3 := ih2 (A &&& (63 ^^^ hang σ.1 σ.2.1 pr L)) (some (.int (nI (hang σ.1 σ.2.1 pr L)))) o7 o8 o9 o10 (Nat.lt_of_le_of_lt Nat.and_le_left hA64) (h1.next hf hpr hb (fun i => andn_tb hA64 i)) (by rw [List.length_append, List.length_singleton]; omega)
            rw [List.length_append, List.length_singleton] at ih3
            exact ih3
          · refine m_iload dX12_part_204 rfl ?_
            exact m_iret (ty := .int) hR dX12_part_206 (⟨by rw [hlast (by omega)]; rfl, rfl⟩)
          ) o6 o7 o8 o9 o10
        refine m_iload dX12_part_63 rfl ?_
        refine m_bipushN 6 dX12_part_65 (by decide) ?_
        first | refine m_icmp_geN 216 dX12_part_67 (by decide) (by omega) (by omega) (fun c67 => by exfalso; omega) (fun c67 => ?_) | refine m_icmp_ge 216 dX12_part_67 (by decide) (fun c67 => by exfalso; omega) (fun c67 => ?_)
        refine m_iload_n dX12_part_70 rfl ?_
        refine m_iload dX12_part_71 rfl ?_
        refine m_ishr dX12_part_73 ?_
        refine m_iconstN 1 dX12_part_74 (by decide) ?_
        refine m_iand dX12_part_75 ?_
        refine m_eqi ((by rw [nI_bit (by omega) (by omega), hb]; rfl : _ = nI 1)) ?_
        refine m_iconstN 1 dX12_part_76 (by decide) ?_
        first | refine m_icmp_neN 210 dX12_part_77 (by decide) (by omega) (by omega) (fun c77 => by exfalso; exact absurd rfl c77) (fun c77 => ?_) | refine m_icmp_ne 210 dX12_part_77 (by decide) (fun c77 => by exfalso; exact absurd rfl c77) (fun c77 => ?_)
        exact hround
      · rw [if_neg hb] at ih2
        refine m_iload dX12_part_63 rfl ?_
        refine m_bipushN 6 dX12_part_65 (by decide) ?_
        first | refine m_icmp_geN 216 dX12_part_67 (by decide) (by omega) (by omega) (fun c67 => by exfalso; omega) (fun c67 => ?_) | refine m_icmp_ge 216 dX12_part_67 (by decide) (fun c67 => by exfalso; omega) (fun c67 => ?_)
        refine m_iload_n dX12_part_70 rfl ?_
        refine m_iload dX12_part_71 rfl ?_
        refine m_ishr dX12_part_73 ?_
        refine m_iconstN 1 dX12_part_74 (by decide) ?_
        refine m_iand dX12_part_75 ?_
        refine m_eqi ((by rw [nI_bit (by omega) (by omega), Bool.eq_false_iff.mpr hb]; rfl : _ = nI 0)) ?_
        refine m_iconstN 1 dX12_part_76 (by decide) ?_
        first | refine m_icmp_neN 210 dX12_part_77 (by decide) (by omega) (by omega) (fun c77 => ?_) (fun c77 => by exfalso; exact c77 (by decide)) | refine m_icmp_ne 210 dX12_part_77 (by decide) (fun c77 => ?_) (fun c77 => by exfalso; exact c77 (by decide))
        first | refine m_iincN 1 dX12_part_210 (by decide) rfl rfl ?_ | refine m_iinc dX12_part_210 rfl rfl ?_
        refine m_goto 63 dX12_part_213 (by decide) ?_
        exact ih2 A _ _ _ _ _ hA64 h1 h2
    · have e6 : L = 6 := by omega
      subst e6
      refine m_iload dX12_part_63 rfl ?_
      refine m_bipushN 6 dX12_part_65 (by decide) ?_
      first | refine m_icmp_geN 216 dX12_part_67 (by decide) (by omega) (by omega) (fun c67 => ?_) (fun c67 => by exfalso; omega) | refine m_icmp_ge 216 dX12_part_67 (by decide) (fun c67 => ?_) (fun c67 => by exfalso; omega)
      refine m_iload_n dX12_part_216 rfl ?_
      refine m_iconst (v := -1) dX12_part_217 (by decide) ?_
      refine m_icmp_ne 226 dX12_part_218 (by decide) (fun c218 => ?_) (fun c218 => by exfalso; exact c218 hm1)
      refine m_iconst (v := -1) dX12_part_226 (by decide) ?_
      exact m_iret (ty := .int) hR dX12_part_227 (⟨by rw [← hk6, List.getElem?_eq_none (by omega)]; rfl, rfl⟩)
    )
  refine m_iload_n dX12_part_0 rfl ?_
  refine m_callSIp (s_X12_isHeap hx) cs_X12_172 dX12_part_1 ?_
  refine m_if_ne 10 dX12_part_4 (by decide) (fun c4 => ?_) (fun c4 => by exfalso; exact c4 (by decide))
  refine m_iload_n dX12_part_10 rfl ?_
  refine m_iconst (v := -1) dX12_part_11 (by decide) ?_
  refine m_icmp_ge 18 dX12_part_12 (by decide) (fun c12 => ?_) (fun c12 => by exfalso; exact c12 (Int32.le_iff_toInt_le.mpr (by rw [nI_toInt hm]; exact Int.le_trans (by decide) (Int.natCast_nonneg m))))
  exact hbits (fun o6 o7 o8 o9 o10 => loop 0 (by decide) pr _ _ _ _ _ hlt ⟨fun i => by show _ = (_ && !Nat.testBit 0 i); rw [Nat.zero_testBit]; simp, fun p q _ _ _ h _ => h⟩ (Nat.zero_le _))
theorem s_X12_partM (hx : hN x = some n) (hs : moSt d σ) : mSpecI l W mX12_part (dep + 2) [.ref (xad W 240), .int x, .int (-1)] d (fun r d' => r = nI (partsF σ.1 σ.2.1 (bitsOf (σ.2.2 n)) σ.1).2.length ∧ d' = d) := by
  obtain ⟨hn, rfl⟩ := hN_some hx
  obtain ⟨hA, hAl, hAg, hAx⟩ := hs.2 n hn
  have hk := hs.1.2.2.2.1
  have hf := hs.1.2.2
  have hpr : ∀ i, (bitsOf (σ.2.2 n)).testBit i = true → i < σ.1 := fun i hi => by rw [bitsOf_tb] at hi; exact hAx i (of_decide_eq_true hi)
  refine m_spec RX12 [some (.ref (xad W 240)), some (.int (nI n)), some (.int (-1)), none, none, none, none, none, none, none, none] rfl (by decide +kernel) rfl rfl (fun K hR => ?_)
  have hlt := bitsOf_lt (xs := σ.2.2 n) (fun x hx => by have := hAx x hx; omega)
  have hk6 := partsF_k (k := σ.1) (fb := σ.2.1) hpr (6 - σ.1)
  rw [show σ.1 + (6 - σ.1) = 6 by omega] at hk6
  have hbits := fun kk => part_bits (W := W) (dep := dep) (K := K) (y := -1) hn hs kk
  generalize bitsOf (σ.2.2 n) = pr at *
  have loop : ∀ L, L ≤ 6 → ∀ A o6 o7 o8 o9 o10, A < 64 → leftP σ.2.1 pr (partsF σ.1 σ.2.1 pr L).1 A → mG W K cX12_part RX12 (dep + 2) d 63 [some (.ref (xad W 240)), some (.int (nI n)), some (.int (-1)), some (.int (nI A)), some (.int (nI (partsF σ.1 σ.2.1 pr L).2.length)), some (.int (nI L)), o6, o7, o8, o9, o10] [] := x_up _ (fun L hL ih A o6 o7 o8 o9 o10 hA64 h1 => by
    have hpl := partsF_len σ.1 σ.2.1 pr L
    by_cases hL6 : L < 6
    · have ih2 := ih hL6
      rw [partsF_s] at ih2
      unfold parts1 at ih2
      rw [← h1.1 L] at ih2
      by_cases hb : A.testBit L = true
      · have hset := h1.set hf hpr hb
        have hh64 : hang σ.1 σ.2.1 pr L < 64 := hang_lt hk hL6
        rw [if_pos hb] at ih2
        have hround := part_round (W := W) (dep := dep) (x := nI n) (K := K) (y := -1) (L := L) (m := (partsF σ.1 σ.2.1 pr L).2.length) hs.1 hA64 hL6 (by omega) (fun o7 o8 o9 o10 => by
          rw [hset]
          refine m_iload_n dX12_part_191 rfl ?_
          refine m_iload dX12_part_192 rfl ?_
          refine m_iconst (v := -1) dX12_part_194 (by decide) ?_
          refine m_ixor dX12_part_195 ?_
          refine m_iand dX12_part_196 ?_
          refine m_eqi (nI_andn A hA64 _ hh64) ?_
          refine m_istore_n dX12_part_197 (Nat.le_of_ble_eq_true rfl) rfl ?_
          refine m_iload dX12_part_198 rfl ?_
          refine m_iload_n dX12_part_200 rfl ?_
          refine m_icmp_ne 207 dX12_part_201 (by decide) (fun c201 => ?_) (fun c201 => by exfalso; exact nI_m1 (by omega) (Decidable.not_not.mp c201))
          first | refine m_iincN 1 dX12_part_207 (by decide) rfl rfl ?_ | refine m_iinc dX12_part_207 rfl rfl ?_
          first | refine m_iincN 1 dX12_part_210 (by decide) rfl rfl ?_ | refine m_iinc dX12_part_210 rfl rfl ?_
          refine m_goto 63 dX12_part_213 (by decide) ?_
          have ih3 := ih2 (A &&& (63 ^^^ hang σ.1 σ.2.1 pr L)) (some (.int (nI (hang σ.1 σ.2.1 pr L)))) o7 o8 o9 o10 (Nat.lt_of_le_of_lt Nat.and_le_left hA64) (h1.next hf hpr hb (fun i => andn_tb hA64 i))
          rw [List.length_append, List.length_singleton] at ih3
          exact ih3
          ) o6 o7 o8 o9 o10
        refine m_iload dX12_part_63 rfl ?_
        refine m_bipushN 6 dX12_part_65 (by decide) ?_
        first | refine m_icmp_geN 216 dX12_part_67 (by decide) (by omega) (by omega) (fun c67 => by exfalso; omega) (fun c67 => ?_) | refine m_icmp_ge 216 dX12_part_67 (by decide) (fun c67 => by exfalso; omega) (fun c67 => ?_)
        refine m_iload_n dX12_part_70 rfl ?_
        refine m_iload dX12_part_71 rfl ?_
        refine m_ishr dX12_part_73 ?_
        refine m_iconstN 1 dX12_part_74 (by decide) ?_
        refine m_iand dX12_part_75 ?_
        refine m_eqi ((by rw [nI_bit (by omega) (by omega), hb]; rfl : _ = nI 1)) ?_
        refine m_iconstN 1 dX12_part_76 (by decide) ?_
        first | refine m_icmp_neN 210 dX12_part_77 (by decide) (by omega) (by omega) (fun c77 => by exfalso; exact absurd rfl c77) (fun c77 => ?_) | refine m_icmp_ne 210 dX12_part_77 (by decide) (fun c77 => by exfalso; exact absurd rfl c77) (fun c77 => ?_)
        exact hround
      · rw [if_neg hb] at ih2
        refine m_iload dX12_part_63 rfl ?_
        refine m_bipushN 6 dX12_part_65 (by decide) ?_
        first | refine m_icmp_geN 216 dX12_part_67 (by decide) (by omega) (by omega) (fun c67 => by exfalso; omega) (fun c67 => ?_) | refine m_icmp_ge 216 dX12_part_67 (by decide) (fun c67 => by exfalso; omega) (fun c67 => ?_)
        refine m_iload_n dX12_part_70 rfl ?_
        refine m_iload dX12_part_71 rfl ?_
        refine m_ishr dX12_part_73 ?_
        refine m_iconstN 1 dX12_part_74 (by decide) ?_
        refine m_iand dX12_part_75 ?_
        refine m_eqi ((by rw [nI_bit (by omega) (by omega), Bool.eq_false_iff.mpr hb]; rfl : _ = nI 0)) ?_
        refine m_iconstN 1 dX12_part_76 (by decide) ?_
        first | refine m_icmp_neN 210 dX12_part_77 (by decide) (by omega) (by omega) (fun c77 => ?_) (fun c77 => by exfalso; exact c77 (by decide)) | refine m_icmp_ne 210 dX12_part_77 (by decide) (fun c77 => ?_) (fun c77 => by exfalso; exact c77 (by decide))
        first | refine m_iincN 1 dX12_part_210 (by decide) rfl rfl ?_ | refine m_iinc dX12_part_210 rfl rfl ?_
        refine m_goto 63 dX12_part_213 (by decide) ?_
        exact ih2 A _ _ _ _ _ hA64 h1
    · have e6 : L = 6 := by omega
      subst e6
      refine m_iload dX12_part_63 rfl ?_
      refine m_bipushN 6 dX12_part_65 (by decide) ?_
      first | refine m_icmp_geN 216 dX12_part_67 (by decide) (by omega) (by omega) (fun c67 => ?_) (fun c67 => by exfalso; omega) | refine m_icmp_ge 216 dX12_part_67 (by decide) (fun c67 => ?_) (fun c67 => by exfalso; omega)
      refine m_iload_n dX12_part_216 rfl ?_
      refine m_iconst (v := -1) dX12_part_217 (by decide) ?_
      refine m_icmp_ne 226 dX12_part_218 (by decide) (fun c218 => by exfalso; exact c218 rfl) (fun c218 => ?_)
      refine m_iload dX12_part_221 rfl ?_
      refine m_goto 227 dX12_part_223 (by decide) ?_
      exact m_iret (ty := .int) hR dX12_part_227 (⟨by rw [← hk6], rfl⟩)
    )
  refine m_iload_n dX12_part_0 rfl ?_
  refine m_callSIp (s_X12_isHeap hx) cs_X12_172 dX12_part_1 ?_
  refine m_if_ne 10 dX12_part_4 (by decide) (fun c4 => ?_) (fun c4 => by exfalso; exact c4 (by decide))
  refine m_iload_n dX12_part_10 rfl ?_
  refine m_iconst (v := -1) dX12_part_11 (by decide) ?_
  refine m_icmp_ge 18 dX12_part_12 (by decide) (fun c12 => ?_) (fun c12 => by exfalso; exact c12 (by decide))
  exact hbits (fun o6 o7 o8 o9 o10 => loop 0 (by decide) pr _ _ _ _ _ hlt ⟨fun i => by show _ = (_ && !Nat.testBit 0 i); rw [Nat.zero_testBit]; simp, fun p q _ _ _ h _ => h⟩)
end MOD
