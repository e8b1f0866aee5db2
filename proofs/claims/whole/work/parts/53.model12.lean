/-! the law's model: all heaps -/
theorem pop_cnt {s k : Nat} (hk : k ≤ 6) (hs : s < 2 ^ k) : pop s = cntB s k := by
  have h1 : ∀ n, ((List.range n).filter (fun i => s.testBit i)).length = cntB s n := by
    intro n
    induction n with
    | zero => rfl
    | succ n ih =>
      rw [List.range_succ, List.filter_append, List.length_append, ih, cntB_s]
      cases h : s.testBit n <;> simp [h]
  have h2 : ∀ m, cntB s (k + m) = cntB s k := by
    intro m
    induction m with
    | zero => rfl
    | succ m ih =>
      rw [show k + (m + 1) = (k + m) + 1 by omega, cntB_s, ih, Nat.testBit_lt_two_pow (Nat.lt_of_lt_of_le hs (Nat.pow_le_pow_right (n := 2) (by decide : 0 < 2) (by omega)))]
      rfl
  have h3 := h2 (6 - k)
  rw [show k + (6 - k) = 6 by omega] at h3
  unfold pop
  rw [h1, h3]
theorem gt1_iff {k s p : Nat} {fb : Nat → Nat} (hf : fbOk k fb) (hs : s < 2 ^ k) (hp : p < k) (hb : s.testBit p = true) : gt1 k fb s p = true ↔ s &&& (63 ^^^ 2 ^ p) &&& (63 ^^^ fb p) = 0 := by
  have hk := hf.2.1
  have hs64 : s < 64 := Nat.lt_of_lt_of_le hs (Nat.pow_le_pow_right (n := 2) (by decide : 0 < 2) hk)
  have hpp := hf.2.2.2.2 p (by omega)
  have hsk : ∀ i, s.testBit i = true → i < k := fun i hi => Nat.not_le.mp (fun z => by
    rw [Nat.testBit_lt_two_pow (Nat.lt_of_lt_of_le hs (Nat.pow_le_pow_right (n := 2) (by decide : 0 < 2) z))] at hi; cases hi)
  have e1 : ∀ i, (s &&& (63 ^^^ 2 ^ p) &&& (63 ^^^ fb p)).testBit i = (s.testBit i && !decide (p = i) && !(fb p).testBit i) := fun i => by
    rw [andn_tb (Nat.lt_of_le_of_lt Nat.and_le_left hs64), andn_tb hs64, Nat.testBit_two_pow]
  have e2 : ∀ i, (s &&& bw k fb p).testBit i = (s.testBit i && !(fb p).testBit i) := fun i => by
    rw [Nat.testBit_and, bw_tb hf (by omega)]
    cases h : s.testBit i with
    | false => rfl
    | true => simp [hsk i h]
  have e3 : gt1 k fb s p = true ↔ s &&& bw k fb p = 2 ^ p := by unfold gt1; rw [hb]; simp
  rw [e3]
  constructor
  · intro h
    apply Nat.eq_of_testBit_eq
    intro i
    have h1 := e2 i
    rw [h, Nat.testBit_two_pow] at h1
    rw [e1, Nat.zero_testBit]
    cases h2 : s.testBit i with
    | false => rfl
    | true =>
      rw [h2, Bool.true_and] at h1
      rw [← h1]
      cases decide (p = i) <;> rfl
  · intro h
    apply Nat.eq_of_testBit_eq
    intro i
    have h1 := e1 i
    rw [h, Nat.zero_testBit] at h1
    rw [e2, Nat.testBit_two_pow]
    by_cases e : p = i
    · subst e
      rw [hb, hpp]; simp
    · rw [decide_eq_false e, Bool.not_false, Bool.and_true] at h1
      rw [← h1, decide_eq_false e]
def gtA (k : Nat) (fb : Nat → Nat) (s a : Nat) : Bool := (List.range a).all (gt1 k fb s)
theorem gtA_s (k : Nat) (fb : Nat → Nat) (s a : Nat) : gtA k fb s (a + 1) = (gtA k fb s a && gt1 k fb s a) := by
  unfold gtA
  rw [List.range_succ, List.all_append]
  simp
/-- the model's sum over sets -/
def msum (t tg : Nat → Nat) (n : Nat) : Nat → Nat
  | 0 => 0
  | i + 1 => if (i + 1) % 2 = 1 then msum t tg n i + (tg (i + 1) * t (n - (i + 1))) % P9 else msum t tg n i + P9 - (tg (i + 1) * t (n - (i + 1))) % P9
theorem msum_s (t tg : Nat → Nat) (n i : Nat) : msum t tg n (i + 1) = if (i + 1) % 2 = 1 then msum t tg n i + (tg (i + 1) * t (n - (i + 1))) % P9 else msum t tg n i + P9 - (tg (i + 1) * t (n - (i + 1))) % P9 := rfl
theorem msum_eq (t tg : Nat → Nat) (n : Nat) : ∀ i, ((msum t tg n i : Nat) : Int) = ssum t tg n i + 1000000007 * ((i / 2 : Nat) : Int) := by
  intro i
  induction i with
  | zero => rfl
  | succ i ih =>
    rw [msum_s, ssum_s]
    have h1 : (tg (i + 1) * t (n - (i + 1))) % P9 < P9 := Nat.mod_lt _ (by decide)
    have hP : P9 = 1000000007 := rfl
    generalize (tg (i + 1) * t (n - (i + 1))) % P9 = y at *
    rw [hP] at *
    by_cases e : (i + 1) % 2 = 1
    · rw [if_pos e, if_pos e, show (i + 1) / 2 = i / 2 by omega]; omega
    · rw [if_neg e, if_neg e, show (i + 1) / 2 = i / 2 + 1 by omega]; omega
theorem msum_mod (t tg : Nat → Nat) (n i : Nat) : msum t tg n i % 1000000007 = (ssum t tg n i % 1000000007).toNat := by
  have h := msum_eq t tg n i
  have h2 : ((msum t tg n i % 1000000007 : Nat) : Int) = ssum t tg n i % 1000000007 := by
    rw [Int.natCast_emod, h]
    exact Int.add_mul_emod_self_left ..
  rw [← h2]; rfl
theorem msum_le (t tg : Nat → Nat) (n : Nat) : ∀ i, msum t tg n i ≤ i * 1000000007 := by
  intro i
  induction i with
  | zero => exact Nat.zero_le _
  | succ i ih =>
    rw [msum_s, Nat.succ_mul]
    have h1 : (tg (i + 1) * t (n - (i + 1))) % P9 < P9 := Nat.mod_lt _ (by decide)
    have hP : P9 = 1000000007 := rfl
    generalize (tg (i + 1) * t (n - (i + 1))) % P9 = y at *
    rw [hP] at *
    split <;> omega
/-- the model's table of what follows -/
def exIs (d : xD) (k : Nat) (fb : Nat → Nat) (m : Nat) : Prop := ∀ n, n ≤ m → ∀ b, b < 64 → d.2 257 (64 * n + b) = lN (fol k fb n b)
section MOD
variable {l : Launch} {W : xW} {dep : Nat} {d : xD} {bs : List Nat} {σ : St} {x y z w : Int32} {n n2 n3 k : Nat} {fb : Nat → Nat}
theorem s_X12_togetherOf {m : Nat} (hl : moLet d k fb) (hm : m < 2 ^ 31) : mSpecI l W mX12_togetherOf dep [.ref (xad W 240), .int (nI m)] d (fun r d' => r = nI (tgs k fb m) ∧ d' = d) := by
  have hk := hl.2.2.2.1
  have hf := hl.2.2
  have h2 : 2 ^ k ≤ 2 ^ 6 := Nat.pow_le_pow_right (n := 2) (by decide) hk
  have hsh : nI 1 <<< (nI k &&& 31) = nI (2 ^ k) := (by decide +kernel : ∀ q, q < 7 → nI 1 <<< (nI q &&& 31) = nI (2 ^ q)) k (by omega)
  refine m_spec RX12 [some (.ref (xad W 240)), some (.int (nI m)), none, none, none, none, none] rfl (by decide +kernel) rfl rfl (fun K hR => ?_)
  have loop : ∀ s, s ≤ 2 ^ k → ∀ o4 o5 o6, mG W K cX12_togetherOf RX12 dep d 4 [some (.ref (xad W 240)), some (.int (nI m)), some (.int (nI (togs k fb m s))), some (.int (nI s)), o4, o5, o6] [] := x_up _ (fun s hs ih o4 o5 o6 => by
    have htl := togs_le k fb m s
    by_cases hsn : s < 2 ^ k
    · have ih2 := ih hsn
      rw [togs_s, pop_cnt hk hsn] at ih2
      have inner : ∀ a, a ≤ k → mG W K cX12_togetherOf RX12 dep d 23 [some (.ref (xad W 240)), some (.int (nI m)), some (.int (nI (togs k fb m s))), some (.int (nI s)), some (.int (nI (cntB s a))), some (.int (nI (gtA k fb s a).toNat)), some (.int (nI a))] [] := x_up _ (fun a ha iha => by
        have hg := Bool.toNat_lt (gtA k fb s a)
        have hcl := cntB_le s a
        by_cases han : a < k
        · have iha2 := iha han
          rw [cntB_s, gtA_s] at iha2
          have hfa := hl.2.1 a (by omega)
          have h64 := hf.lt64 (p := a) (by omega)
          cases hb : s.testBit a with
          | false =>
            have hg1 : gt1 k fb s a = true := by unfold gt1; rw [hb]; rfl
            rw [hb, hg1, Bool.and_true] at iha2
            refine m_iload dX12_togetherOf_23 rfl ?_
            refine m_aload_n dX12_togetherOf_25 rfl ?_
            refine m_get fl_X12_7 (by decide) rfl rfl dX12_togetherOf_26 ?_
            refine m_eqi (hl.1) ?_
            first | refine m_icmp_geN 84 dX12_togetherOf_29 (by decide) (by omega) (by omega) (fun c29 => by exfalso; omega) (fun c29 => ?_) | refine m_icmp_ge 84 dX12_togetherOf_29 (by decide) (fun c29 => by exfalso; omega) (fun c29 => ?_)
            refine m_iload_n dX12_togetherOf_32 rfl ?_
            refine m_iload dX12_togetherOf_33 rfl ?_
            refine m_ishr dX12_togetherOf_35 ?_
            refine m_iconstN 1 dX12_togetherOf_36 (by decide) ?_
            refine m_iand dX12_togetherOf_37 ?_
            refine m_eqi ((by rw [nI_bit (by omega) (by omega), hb]; rfl : _ = nI 0)) ?_
            refine m_iconstN 1 dX12_togetherOf_38 (by decide) ?_
            first | refine m_icmp_neN 78 dX12_togetherOf_39 (by decide) (by omega) (by omega) (fun c39 => ?_) (fun c39 => by exfalso; exact c39 (by decide)) | refine m_icmp_ne 78 dX12_togetherOf_39 (by decide) (fun c39 => ?_) (fun c39 => by exfalso; exact c39 (by decide))
            first | refine m_iincN 1 dX12_togetherOf_78 (by decide) rfl rfl ?_ | refine m_iinc dX12_togetherOf_78 rfl rfl ?_
            refine m_goto 23 dX12_togetherOf_81 (by decide) ?_
            exact iha2
          | true =>
            have hgi := gt1_iff hf hsn han hb
            rw [hb] at iha2
            cases hgv : gtA k fb s a with
            | false =>
              rw [hgv, Bool.false_and] at iha2
              refine m_iload dX12_togetherOf_23 rfl ?_
              refine m_aload_n dX12_togetherOf_25 rfl ?_
              refine m_get fl_X12_7 (by decide) rfl rfl dX12_togetherOf_26 ?_
              refine m_eqi (hl.1) ?_
              first | refine m_icmp_geN 84 dX12_togetherOf_29 (by decide) (by omega) (by omega) (fun c29 => by exfalso; omega) (fun c29 => ?_) | refine m_icmp_ge 84 dX12_togetherOf_29 (by decide) (fun c29 => by exfalso; omega) (fun c29 => ?_)
              refine m_iload_n dX12_togetherOf_32 rfl ?_
              refine m_iload dX12_togetherOf_33 rfl ?_
              refine m_ishr dX12_togetherOf_35 ?_
              refine m_iconstN 1 dX12_togetherOf_36 (by decide) ?_
              refine m_iand dX12_togetherOf_37 ?_
              refine m_eqi ((by rw [nI_bit (by omega) (by omega), hb]; rfl : _ = nI 1)) ?_
              refine m_iconstN 1 dX12_togetherOf_38 (by decide) ?_
              first | refine m_icmp_neN 78 dX12_togetherOf_39 (by decide) (by omega) (by omega) (fun c39 => by exfalso; exact c39 rfl) (fun c39 => ?_) | refine m_icmp_ne 78 dX12_togetherOf_39 (by decide) (fun c39 => by exfalso; exact c39 rfl) (fun c39 => ?_)
              first | refine m_iincN 1 dX12_togetherOf_42 (by decide) rfl rfl ?_ | refine m_iinc dX12_togetherOf_42 rfl rfl ?_
              refine m_iload dX12_togetherOf_45 rfl ?_
              first | refine m_if_eqN 75 dX12_togetherOf_47 (by decide) (by omega) (fun c47 => ?_) (fun c47 => by exfalso; exact c47 rfl) | refine m_if_eq 75 dX12_togetherOf_47 (by decide) (fun c47 => ?_) (fun c47 => by exfalso; exact c47 rfl)
              refine m_iconstN 0 dX12_togetherOf_75 (by decide) ?_
              refine m_istore dX12_togetherOf_76 (Nat.le_of_ble_eq_true rfl) rfl ?_
              first | refine m_iincN 1 dX12_togetherOf_78 (by decide) rfl rfl ?_ | refine m_iinc dX12_togetherOf_78 rfl rfl ?_
              refine m_goto 23 dX12_togetherOf_81 (by decide) ?_
              exact iha2
            | true =>
              rw [hgv, Bool.true_and] at iha2
              have hlt : s &&& (63 ^^^ 2 ^ a) &&& (63 ^^^ fb a) < 64 := Nat.lt_of_le_of_lt Nat.and_le_left (Nat.lt_of_le_of_lt Nat.and_le_left (by omega))
              refine m_iload dX12_togetherOf_23 rfl ?_
              refine m_aload_n dX12_togetherOf_25 rfl ?_
              refine m_get fl_X12_7 (by decide) rfl rfl dX12_togetherOf_26 ?_
              refine m_eqi (hl.1) ?_
              first | refine m_icmp_geN 84 dX12_togetherOf_29 (by decide) (by omega) (by omega) (fun c29 => by exfalso; omega) (fun c29 => ?_) | refine m_icmp_ge 84 dX12_togetherOf_29 (by decide) (fun c29 => by exfalso; omega) (fun c29 => ?_)
              refine m_iload_n dX12_togetherOf_32 rfl ?_
              refine m_iload dX12_togetherOf_33 rfl ?_
              refine m_ishr dX12_togetherOf_35 ?_
              refine m_iconstN 1 dX12_togetherOf_36 (by decide) ?_
              refine m_iand dX12_togetherOf_37 ?_
              refine m_eqi ((by rw [nI_bit (by omega) (by omega), hb]; rfl : _ = nI 1)) ?_
              refine m_iconstN 1 dX12_togetherOf_38 (by decide) ?_
              first | refine m_icmp_neN 78 dX12_togetherOf_39 (by decide) (by omega) (by omega) (fun c39 => by exfalso; exact c39 rfl) (fun c39 => ?_) | refine m_icmp_ne 78 dX12_togetherOf_39 (by decide) (fun c39 => by exfalso; exact c39 rfl) (fun c39 => ?_)
              first | refine m_iincN 1 dX12_togetherOf_42 (by decide) rfl rfl ?_ | refine m_iinc dX12_togetherOf_42 rfl rfl ?_
              refine m_iload dX12_togetherOf_45 rfl ?_
              first | refine m_if_eqN 75 dX12_togetherOf_47 (by decide) (by omega) (fun c47 => by exfalso; exact absurd c47 (by decide)) (fun c47 => ?_) | refine m_if_eq 75 dX12_togetherOf_47 (by decide) (fun c47 => by exfalso; exact absurd c47 (by decide)) (fun c47 => ?_)
              refine m_iload_n dX12_togetherOf_50 rfl ?_
              refine m_iconstN 1 dX12_togetherOf_51 (by decide) ?_
              refine m_iload dX12_togetherOf_52 rfl ?_
              refine m_ishl dX12_togetherOf_54 ?_
              refine m_eqi (nI_sb1 a (by omega)) ?_
              refine m_iconst (v := -1) dX12_togetherOf_55 (by decide) ?_
              refine m_ixor dX12_togetherOf_56 ?_
              refine m_iand dX12_togetherOf_57 ?_
              refine m_eqi (nI_andn s (by omega) _ (p2_lt (by omega))) ?_
              refine m_aload_n dX12_togetherOf_58 rfl ?_
              refine m_get fl_X12_13 (by decide) rfl rfl dX12_togetherOf_59 ?_
              refine m_iload dX12_togetherOf_62 rfl ?_
              refine m_iald (by first | exact ⟨by decide, by decide, fun _ => rfl⟩ | exact isI_arr _ (by omega) | exact isI_mv _ (by omega) | exact isI_ne _ (by omega)) (by omega) dX12_togetherOf_64 ?_
              refine m_eqi (hfa) ?_
              refine m_iconst (v := -1) dX12_togetherOf_65 (by decide) ?_
              refine m_ixor dX12_togetherOf_66 ?_
              refine m_iand dX12_togetherOf_67 ?_
              refine m_eqi (nI_andn _ (Nat.lt_of_le_of_lt Nat.and_le_left (by omega)) _ h64) ?_
              first | refine m_if_neN 75 dX12_togetherOf_68 (by decide) (by omega) (fun c68 => ?_) (fun c68 => ?_) | refine m_if_ne 75 dX12_togetherOf_68 (by decide) (fun c68 => ?_) (fun c68 => ?_)
              · refine m_iconstN 0 dX12_togetherOf_75 (by decide) ?_
                refine m_istore dX12_togetherOf_76 (Nat.le_of_ble_eq_true rfl) rfl ?_
                first | refine m_iincN 1 dX12_togetherOf_78 (by decide) rfl rfl ?_ | refine m_iinc dX12_togetherOf_78 rfl rfl ?_
                refine m_goto 23 dX12_togetherOf_81 (by decide) ?_
                rw [show gt1 k fb s a = false from Bool.eq_false_iff.mpr (fun z => c68 (hgi.mp z))] at iha2
                exact iha2
              · refine m_iconstN 1 dX12_togetherOf_71 (by decide) ?_
                refine m_goto 76 dX12_togetherOf_72 (by decide) ?_
                refine m_istore dX12_togetherOf_76 (Nat.le_of_ble_eq_true rfl) rfl ?_
                first | refine m_iincN 1 dX12_togetherOf_78 (by decide) rfl rfl ?_ | refine m_iinc dX12_togetherOf_78 rfl rfl ?_
                refine m_goto 23 dX12_togetherOf_81 (by decide) ?_
                rw [hgi.mpr (Decidable.not_not.mp c68)] at iha2
                exact iha2
        · have e6 : a = k := by omega
          subst e6
          have egt : gtA a fb s a = gt a fb s := rfl
          rw [egt] at hg ⊢
          by_cases hcd : cntB s a = m ∧ gt a fb s = true
          · rw [if_pos hcd] at ih2
            rw [hcd.1, hcd.2]
            refine m_iload dX12_togetherOf_23 rfl ?_
            refine m_aload_n dX12_togetherOf_25 rfl ?_
            refine m_get fl_X12_7 (by decide) rfl rfl dX12_togetherOf_26 ?_
            refine m_eqi (hl.1) ?_
            first | refine m_icmp_geN 84 dX12_togetherOf_29 (by decide) (by omega) (by omega) (fun c29 => ?_) (fun c29 => by exfalso; omega) | refine m_icmp_ge 84 dX12_togetherOf_29 (by decide) (fun c29 => ?_) (fun c29 => by exfalso; omega)
            refine m_iload_n dX12_togetherOf_84 rfl ?_
            refine m_iload dX12_togetherOf_85 rfl ?_
            first | refine m_if_eqN 100 dX12_togetherOf_87 (by decide) (by omega) (fun c87 => by exfalso; exact absurd c87 (by decide)) (fun c87 => ?_) | refine m_if_eq 100 dX12_togetherOf_87 (by decide) (fun c87 => by exfalso; exact absurd c87 (by decide)) (fun c87 => ?_)
            refine m_iload dX12_togetherOf_90 rfl ?_
            refine m_iload_n dX12_togetherOf_92 rfl ?_
            first | refine m_icmp_neN 100 dX12_togetherOf_93 (by decide) (by omega) (by omega) (fun c93 => by exfalso; omega) (fun c93 => ?_) | refine m_icmp_ne 100 dX12_togetherOf_93 (by decide) (fun c93 => by exfalso; omega) (fun c93 => ?_)
            refine m_iconstN 1 dX12_togetherOf_96 (by decide) ?_
            refine m_goto 101 dX12_togetherOf_97 (by decide) ?_
            first | refine m_iaddN dX12_togetherOf_101 ?_ | refine m_iadd dX12_togetherOf_101 ?_
            refine m_istore_n dX12_togetherOf_102 (Nat.le_of_ble_eq_true rfl) rfl ?_
            first | refine m_iincN 1 dX12_togetherOf_103 (by decide) rfl rfl ?_ | refine m_iinc dX12_togetherOf_103 rfl rfl ?_
            refine m_goto 4 dX12_togetherOf_106 (by decide) ?_
            exact ih2 _ _ _
          · rw [if_neg hcd] at ih2
            refine m_iload dX12_togetherOf_23 rfl ?_
            refine m_aload_n dX12_togetherOf_25 rfl ?_
            refine m_get fl_X12_7 (by decide) rfl rfl dX12_togetherOf_26 ?_
            refine m_eqi (hl.1) ?_
            first | refine m_icmp_geN 84 dX12_togetherOf_29 (by decide) (by omega) (by omega) (fun c29 => ?_) (fun c29 => by exfalso; omega) | refine m_icmp_ge 84 dX12_togetherOf_29 (by decide) (fun c29 => ?_) (fun c29 => by exfalso; omega)
            refine m_iload_n dX12_togetherOf_84 rfl ?_
            refine m_iload dX12_togetherOf_85 rfl ?_
            first | refine m_if_eqN 100 dX12_togetherOf_87 (by decide) (by omega) (fun c87 => ?_) (fun c87 => ?_) | refine m_if_eq 100 dX12_togetherOf_87 (by decide) (fun c87 => ?_) (fun c87 => ?_)
            · refine m_iconstN 0 dX12_togetherOf_100 (by decide) ?_
              first | refine m_iaddN dX12_togetherOf_101 ?_ | refine m_iadd dX12_togetherOf_101 ?_
              refine m_istore_n dX12_togetherOf_102 (Nat.le_of_ble_eq_true rfl) rfl ?_
              first | refine m_iincN 1 dX12_togetherOf_103 (by decide) rfl rfl ?_ | refine m_iinc dX12_togetherOf_103 rfl rfl ?_
              refine m_goto 4 dX12_togetherOf_106 (by decide) ?_
              exact ih2 _ _ _
            · refine m_iload dX12_togetherOf_90 rfl ?_
              refine m_iload_n dX12_togetherOf_92 rfl ?_
              first | refine m_icmp_neN 100 dX12_togetherOf_93 (by decide) (by omega) (by omega) (fun c93 => ?_) (fun c93 => ?_) | refine m_icmp_ne 100 dX12_togetherOf_93 (by decide) (fun c93 => ?_) (fun c93 => ?_)
              · refine m_iconstN 0 dX12_togetherOf_100 (by decide) ?_
                first | refine m_iaddN dX12_togetherOf_101 ?_ | refine m_iadd dX12_togetherOf_101 ?_
                refine m_istore_n dX12_togetherOf_102 (Nat.le_of_ble_eq_true rfl) rfl ?_
                first | refine m_iincN 1 dX12_togetherOf_103 (by decide) rfl rfl ?_ | refine m_iinc dX12_togetherOf_103 rfl rfl ?_
                refine m_goto 4 dX12_togetherOf_106 (by decide) ?_
                exact ih2 _ _ _
              · refine m_iconstN 1 dX12_togetherOf_96 (by decide) ?_
                refine m_goto 101 dX12_togetherOf_97 (by decide) ?_
                first | refine m_iaddN dX12_togetherOf_101 ?_ | refine m_iadd dX12_togetherOf_101 ?_
                refine m_istore_n dX12_togetherOf_102 (Nat.le_of_ble_eq_true rfl) rfl ?_
                first | refine m_iincN 1 dX12_togetherOf_103 (by decide) rfl rfl ?_ | refine m_iinc dX12_togetherOf_103 rfl rfl ?_
                refine m_goto 4 dX12_togetherOf_106 (by decide) ?_
                exact absurd ⟨Decidable.not_not.mp c93, bt1 c87⟩ hcd
        )
      refine m_iload_n dX12_togetherOf_4 rfl ?_
      refine m_iconstN 1 dX12_togetherOf_5 (by decide) ?_
      refine m_aload_n dX12_togetherOf_6 rfl ?_
      refine m_get fl_X12_7 (by decide) rfl rfl dX12_togetherOf_7 ?_
      refine m_eqi (hl.1) ?_
      refine m_ishl dX12_togetherOf_10 ?_
      refine m_eqi (hsh) ?_
      first | refine m_icmp_geN 109 dX12_togetherOf_11 (by decide) (by omega) (by omega) (fun c11 => by exfalso; omega) (fun c11 => ?_) | refine m_icmp_ge 109 dX12_togetherOf_11 (by decide) (fun c11 => by exfalso; omega) (fun c11 => ?_)
      refine m_iconstN 0 dX12_togetherOf_14 (by decide) ?_
      refine m_istore dX12_togetherOf_15 (Nat.le_of_ble_eq_true rfl) rfl ?_
      refine m_iconstN 1 dX12_togetherOf_17 (by decide) ?_
      refine m_istore dX12_togetherOf_18 (Nat.le_of_ble_eq_true rfl) rfl ?_
      refine m_iconstN 0 dX12_togetherOf_20 (by decide) ?_
      refine m_istore dX12_togetherOf_21 (Nat.le_of_ble_eq_true rfl) rfl ?_
      exact inner 0 (Nat.zero_le _)
    · have e6 : s = 2 ^ k := by omega
      subst e6
      refine m_iload_n dX12_togetherOf_4 rfl ?_
      refine m_iconstN 1 dX12_togetherOf_5 (by decide) ?_
      refine m_aload_n dX12_togetherOf_6 rfl ?_
      refine m_get fl_X12_7 (by decide) rfl rfl dX12_togetherOf_7 ?_
      refine m_eqi (hl.1) ?_
      refine m_ishl dX12_togetherOf_10 ?_
      refine m_eqi (hsh) ?_
      first | refine m_icmp_geN 109 dX12_togetherOf_11 (by decide) (by omega) (by omega) (fun c11 => ?_) (fun c11 => by exfalso; omega) | refine m_icmp_ge 109 dX12_togetherOf_11 (by decide) (fun c11 => ?_) (fun c11 => by exfalso; omega)
      refine m_iload_n dX12_togetherOf_109 rfl ?_
      exact m_iret (ty := .int) hR dX12_togetherOf_110 (⟨rfl, rfl⟩)
    )
  refine m_iconstN 0 dX12_togetherOf_0 (by decide) ?_
  refine m_istore_n dX12_togetherOf_1 (Nat.le_of_ble_eq_true rfl) rfl ?_
  refine m_iconstN 0 dX12_togetherOf_2 (by decide) ?_
  refine m_istore_n dX12_togetherOf_3 (Nat.le_of_ble_eq_true rfl) rfl ?_
  exact loop 0 (Nat.zero_le _) _ _ _
theorem s_X12_togetherO (hy : y < 0 ∨ nI 6 < y) : mSpecI l W mX12_together (dep + 1) [.ref (xad W 240), .int y] d (fun r d' => r = -3 ∧ d' = d) := by
  refine m_spec RX12 [some (.ref (xad W 240)), some (.int y)] rfl (by decide +kernel) rfl rfl (fun K hR => ?_)
  refine m_iload_n dX12_together_0 rfl ?_
  refine m_iconstN 0 dX12_together_1 (by decide) ?_
  refine m_bipushN 6 dX12_together_2 (by decide) ?_
  refine m_callSIp (s_X12_inN (x := y) (a := nI 0) (b := nI 6) hy) cs_X12_83 dX12_together_4 ?_
  refine m_if_eq 18 dX12_together_7 (by decide) (fun c7 => ?_) (fun c7 => by exfalso; exact c7 rfl)
  refine m_bipush (v := -3) dX12_together_18 (by decide) ?_
  exact m_iret (ty := .int) hR dX12_together_20 (⟨rfl, rfl⟩)
theorem s_X12_together {m : Nat} (hm : m ≤ 6) (hs : moSt d σ) : mSpecI l W mX12_together (dep + 1) [.ref (xad W 240), .int (nI m)] d (fun r d' => r = nI (tgs σ.1 σ.2.1 m) ∧ d' = d) := by
  refine m_spec RX12 [some (.ref (xad W 240)), some (.int (nI m))] rfl (by decide +kernel) rfl rfl (fun K hR => ?_)
  refine m_iload_n dX12_together_0 rfl ?_
  refine m_iconstN 0 dX12_together_1 (by decide) ?_
  refine m_bipushN 6 dX12_together_2 (by decide) ?_
  refine m_callSIp (s_X12_inY (x := nI m) (a := nI 0) (b := nI 6) ((nI_leI (by omega) (by omega)).mpr (by omega)) ((nI_leI (by omega) (by omega)).mpr (by omega))) cs_X12_83 dX12_together_4 ?_
  refine m_if_eq 18 dX12_together_7 (by decide) (fun c7 => by exfalso; exact absurd c7 (by decide)) (fun c7 => ?_)
  refine m_aload_n dX12_together_10 rfl ?_
  refine m_iload_n dX12_together_11 rfl ?_
  refine m_callVIp (s_X12_togetherOf (m := m) hs.1 (by omega)) cv_X12_251 dX12_together_12 ?_
  refine m_goto 20 dX12_together_15 (by decide) ?_
  exact m_iret (ty := .int) hR dX12_together_20 (⟨rfl, rfl⟩)
theorem s_X12_manyO (hy : y < 0 ∨ nI 60 < y) : mSpecI l W mX12_many (dep + 1) [.ref (xad W 240), .int y] d (fun r d' => r = -3 ∧ d' = d) := by
  refine m_spec RX12 [some (.ref (xad W 240)), some (.int y), none, none, none, none, none, none] rfl (by decide +kernel) rfl rfl (fun K hR => ?_)
  refine m_iload_n dX12_many_0 rfl ?_
  refine m_iconstN 0 dX12_many_1 (by decide) ?_
  refine m_bipushN 60 dX12_many_2 (by decide) ?_
  refine m_callSIp (s_X12_inN (x := y) (a := nI 0) (b := nI 60) hy) cs_X12_83 dX12_many_4 ?_
  refine m_if_ne 13 dX12_many_7 (by decide) (fun c7 => by exfalso; exact c7 rfl) (fun c7 => ?_)
  refine m_bipush (v := -3) dX12_many_10 (by decide) ?_
  exact m_iret (ty := .int) hR dX12_many_12 (⟨rfl, rfl⟩)
theorem s_X12_many {m : Nat} (hm : m ≤ 60) (hs : moSt d σ) : mSpecI l W mX12_many (dep + 1) [.ref (xad W 240), .int (nI m)] d (fun r d' => r = nI (mny (tgs σ.1 σ.2.1) m) ∧ chg [255, 260] d d') := by
  have hk := hs.1.2.2.2.1
  have hI : isI W 255 6 := ⟨by decide, by decide, fun _ => rfl⟩
  have hL : isL W 260 61 := ⟨by decide, by decide, fun _ => rfl⟩
  have htg : ∀ c, tgs σ.1 σ.2.1 c ≤ 64 := fun c => Nat.le_trans (togs_le _ _ _ _) (show 2 ^ σ.1 ≤ 2 ^ 6 from Nat.pow_le_pow_right (n := 2) (by decide) hk)
  refine m_spec RX12 [some (.ref (xad W 240)), some (.int (nI m)), none, none, none, none, none, none] rfl (by decide +kernel) rfl rfl (fun K hR => ?_)
  have h1 := hs.1
  generalize htg0 : tgs σ.1 σ.2.1 = tg at *
  have loop2 : ∀ i, i ≤ m → ∀ d1 o3 o4 o5 o6 o7, (∀ c, c < 6 → d1.1 255 c = nI (tg (c + 1))) → (∀ q, q ≤ i → d1.2 260 q = lN (mny tg q)) → chg [255, 260] d d1 → mG W K cX12_many RX12 (dep + 1) d1 49 [some (.ref (xad W 240)), some (.int (nI m)), some (.int (nI (i + 1))), o3, o4, o5, o6, o7] [] := x_up _ (fun i hi ih d1 o3 o4 o5 o6 o7 g1 g2 g3 => by
    by_cases hin : i < m
    · have ih2 := ih hin
      have inner : ∀ j, j ≤ min (i + 1) 6 → ∀ o6 o7, mG W K cX12_many RX12 (dep + 1) d1 59 [some (.ref (xad W 240)), some (.int (nI m)), some (.int (nI (i + 1))), some (.long (lN (msum (mny tg) tg (i + 1) j))), none, some (.int (nI (j + 1))), o6, o7] [] := x_up _ (fun j hj ihj o6 o7 => by
        have hml := msum_le (mny tg) tg (i + 1) j
        have hj6 : j ≤ 6 := Nat.le_trans hj (Nat.min_le_right _ _)
        have hji : j ≤ i + 1 := Nat.le_trans hj (Nat.min_le_left _ _)
        by_cases hjn : j < min (i + 1) 6
        · have hj7 : j < 6 := by omega
          have hj8 : j < i + 1 := by omega
          have ihj2 := ihj hjn
          rw [msum_s] at ihj2
          have hv1 : (tg (j + 1) * mny tg (i + 1 - (j + 1))) % 1000000007 < 1000000007 := Nat.mod_lt _ (by decide)
          have htj := htg (j + 1)
          have hmj := mny_lt tg (i + 1 - (j + 1))
          have hmul : tg (j + 1) * mny tg (i + 1 - (j + 1)) ≤ 64 * 1000000007 := Nat.mul_le_mul htj (Nat.le_of_lt hmj)
          have hP : P9 = 1000000007 := rfl
          rw [hP] at ihj2
          by_cases hodd : (j + 1) % 2 = 1
          · rw [if_pos hodd] at ihj2
            refine m_iload dX12_many_59 rfl ?_
            refine m_bipushN 6 dX12_many_61 (by decide) ?_
            first | refine m_icmp_gtN 128 dX12_many_63 (by decide) (by omega) (by omega) (fun c63 => by exfalso; omega) (fun c63 => ?_) | refine m_icmp_gt 128 dX12_many_63 (by decide) (fun c63 => by exfalso; omega) (fun c63 => ?_)
            refine m_iload dX12_many_66 rfl ?_
            refine m_iload_n dX12_many_68 rfl ?_
            first | refine m_icmp_gtN 128 dX12_many_69 (by decide) (by omega) (by omega) (fun c69 => by exfalso; omega) (fun c69 => ?_) | refine m_icmp_gt 128 dX12_many_69 (by decide) (fun c69 => by exfalso; omega) (fun c69 => ?_)
            refine m_aload_n dX12_many_72 rfl ?_
            refine m_get fl_X12_59 (by decide) rfl rfl dX12_many_73 ?_
            refine m_iload dX12_many_76 rfl ?_
            refine m_iconstN 1 dX12_many_78 (by decide) ?_
            first | refine m_isubN dX12_many_79 (by omega) ?_ | refine m_isub dX12_many_79 ?_
            refine m_eqi ((by rw [Nat.add_sub_cancel] : _ = nI j)) ?_
            refine m_iald (by first | exact ⟨by decide, by decide, fun _ => rfl⟩ | exact isI_arr _ (by omega) | exact isI_mv _ (by omega) | exact isI_ne _ (by omega)) (by omega) dX12_many_80 ?_
            refine m_eqi (g1 j hj7) ?_
            first | refine m_i2lN dX12_many_81 (by omega) ?_ | refine m_i2l dX12_many_81 ?_
            refine m_aload_n dX12_many_82 rfl ?_
            refine m_get fl_X12_74 (by decide) rfl rfl dX12_many_83 ?_
            refine m_iload_n dX12_many_86 rfl ?_
            refine m_iload dX12_many_87 rfl ?_
            first | refine m_isubN dX12_many_89 (by omega) ?_ | refine m_isub dX12_many_89 ?_
            refine m_lald hL (by omega) dX12_many_90 ?_
            refine m_eql (g2 (i + 1 - (j + 1)) (by omega)) ?_
            first | refine m_lmulN dX12_many_91 ?_ | refine m_lmul dX12_many_91 ?_
            refine m_ldc2 ct_X12_218 dX12_many_92 ?_
            refine m_eql (y := lN 1000000007) (by decide +kernel) ?_
            first | refine m_lremN dX12_many_95 (by omega) (by omega) (by omega) ?_ | refine m_lrem dX12_many_95 (by decide) ?_
            refine m_lstore dX12_many_96 (Nat.le_of_ble_eq_true rfl) rfl ?_
            refine m_iload dX12_many_98 rfl ?_
            refine m_iconstN 2 dX12_many_100 (by decide) ?_
            first | refine m_iremN dX12_many_101 (by omega) (by omega) (by omega) ?_ | refine m_irem dX12_many_101 (by decide) ?_
            refine m_iconstN 1 dX12_many_102 (by decide) ?_
            first | refine m_icmp_neN 113 dX12_many_103 (by decide) (by omega) (by omega) (fun c103 => by exfalso; omega) (fun c103 => ?_) | refine m_icmp_ne 113 dX12_many_103 (by decide) (fun c103 => by exfalso; omega) (fun c103 => ?_)
            refine m_lload_n dX12_many_106 rfl ?_
            refine m_lload dX12_many_107 rfl ?_
            first | refine m_laddN dX12_many_109 ?_ | refine m_ladd dX12_many_109 ?_
            refine m_goto 121 dX12_many_110 (by decide) ?_
            refine m_lstore_n dX12_many_121 (Nat.le_of_ble_eq_true rfl) rfl ?_
            first | refine m_iincN 1 dX12_many_122 (by decide) rfl rfl ?_ | refine m_iinc dX12_many_122 rfl rfl ?_
            refine m_goto 59 dX12_many_125 (by decide) ?_
            exact ihj2 _ _
          · rw [if_neg hodd] at ihj2
            refine m_iload dX12_many_59 rfl ?_
            refine m_bipushN 6 dX12_many_61 (by decide) ?_
            first | refine m_icmp_gtN 128 dX12_many_63 (by decide) (by omega) (by omega) (fun c63 => by exfalso; omega) (fun c63 => ?_) | refine m_icmp_gt 128 dX12_many_63 (by decide) (fun c63 => by exfalso; omega) (fun c63 => ?_)
            refine m_iload dX12_many_66 rfl ?_
            refine m_iload_n dX12_many_68 rfl ?_
            first | refine m_icmp_gtN 128 dX12_many_69 (by decide) (by omega) (by omega) (fun c69 => by exfalso; omega) (fun c69 => ?_) | refine m_icmp_gt 128 dX12_many_69 (by decide) (fun c69 => by exfalso; omega) (fun c69 => ?_)
            refine m_aload_n dX12_many_72 rfl ?_
            refine m_get fl_X12_59 (by decide) rfl rfl dX12_many_73 ?_
            refine m_iload dX12_many_76 rfl ?_
            refine m_iconstN 1 dX12_many_78 (by decide) ?_
            first | refine m_isubN dX12_many_79 (by omega) ?_ | refine m_isub dX12_many_79 ?_
            refine m_eqi ((by rw [Nat.add_sub_cancel] : _ = nI j)) ?_
            refine m_iald (by first | exact ⟨by decide, by decide, fun _ => rfl⟩ | exact isI_arr _ (by omega) | exact isI_mv _ (by omega) | exact isI_ne _ (by omega)) (by omega) dX12_many_80 ?_
            refine m_eqi (g1 j hj7) ?_
            first | refine m_i2lN dX12_many_81 (by omega) ?_ | refine m_i2l dX12_many_81 ?_
            refine m_aload_n dX12_many_82 rfl ?_
            refine m_get fl_X12_74 (by decide) rfl rfl dX12_many_83 ?_
            refine m_iload_n dX12_many_86 rfl ?_
            refine m_iload dX12_many_87 rfl ?_
            first | refine m_isubN dX12_many_89 (by omega) ?_ | refine m_isub dX12_many_89 ?_
            refine m_lald hL (by omega) dX12_many_90 ?_
            refine m_eql (g2 (i + 1 - (j + 1)) (by omega)) ?_
            first | refine m_lmulN dX12_many_91 ?_ | refine m_lmul dX12_many_91 ?_
            refine m_ldc2 ct_X12_218 dX12_many_92 ?_
            refine m_eql (y := lN 1000000007) (by decide +kernel) ?_
            first | refine m_lremN dX12_many_95 (by omega) (by omega) (by omega) ?_ | refine m_lrem dX12_many_95 (by decide) ?_
            refine m_lstore dX12_many_96 (Nat.le_of_ble_eq_true rfl) rfl ?_
            refine m_iload dX12_many_98 rfl ?_
            refine m_iconstN 2 dX12_many_100 (by decide) ?_
            first | refine m_iremN dX12_many_101 (by omega) (by omega) (by omega) ?_ | refine m_irem dX12_many_101 (by decide) ?_
            refine m_iconstN 1 dX12_many_102 (by decide) ?_
            first | refine m_icmp_neN 113 dX12_many_103 (by decide) (by omega) (by omega) (fun c103 => ?_) (fun c103 => by exfalso; omega) | refine m_icmp_ne 113 dX12_many_103 (by decide) (fun c103 => ?_) (fun c103 => by exfalso; omega)
            refine m_lload_n dX12_many_113 rfl ?_
            refine m_ldc2 ct_X12_218 dX12_many_114 ?_
            refine m_eql (y := lN 1000000007) (by decide +kernel) ?_
            first | refine m_laddN dX12_many_117 ?_ | refine m_ladd dX12_many_117 ?_
            refine m_lload dX12_many_118 rfl ?_
            first | refine m_lsubN dX12_many_120 (by omega) ?_ | refine m_lsub dX12_many_120 ?_
            refine m_lstore_n dX12_many_121 (Nat.le_of_ble_eq_true rfl) rfl ?_
            first | refine m_iincN 1 dX12_many_122 (by decide) rfl rfl ?_ | refine m_iinc dX12_many_122 rfl rfl ?_
            refine m_goto 59 dX12_many_125 (by decide) ?_
            exact ihj2 _ _
        · have e6 : j = min (i + 1) 6 := by omega
          have hend : mG W K cX12_many RX12 (dep + 1) d1 128 [some (.ref (xad W 240)), some (.int (nI m)), some (.int (nI (i + 1))), some (.long (lN (msum (mny tg) tg (i + 1) j))), none, some (.int (nI (j + 1))), o6, o7] [] := by
            have hml2 : msum (mny tg) tg (i + 1) j < 2 ^ 63 := by omega
            refine m_aload_n dX12_many_128 rfl ?_
            refine m_get fl_X12_74 (by decide) rfl rfl dX12_many_129 ?_
            refine m_iload_n dX12_many_132 rfl ?_
            refine m_lload_n dX12_many_133 rfl ?_
            refine m_ldc2 ct_X12_218 dX12_many_134 ?_
            refine m_eql (y := lN 1000000007) (by decide +kernel) ?_
            first | refine m_lremN dX12_many_137 (by omega) (by omega) (by omega) ?_ | refine m_lrem dX12_many_137 (by decide) ?_
            refine m_eql ((by rw [msum_mod, e6, ← mny_s] : _ = lN (mny tg (i + 1)))) ?_
            refine m_last hL (by omega) dX12_many_138 ?_
            first | refine m_iincN 1 dX12_many_139 (by decide) rfl rfl ?_ | refine m_iinc dX12_many_139 rfl rfl ?_
            refine m_goto 49 dX12_many_142 (by decide) ?_
            refine ih2 _ _ _ _ _ _ (fun c hc => g1 c hc) (fun q hq => ?_) (g3.seL (by simp))
            by_cases e : q = i + 1
            · subst e; exact seL_s' _ _ _ _
            · rw [seL_n _ _ e]; exact g2 q (by omega)
          by_cases h6 : j = 6
          · subst h6
            refine m_iload dX12_many_59 rfl ?_
            refine m_bipushN 6 dX12_many_61 (by decide) ?_
            first | refine m_icmp_gtN 128 dX12_many_63 (by decide) (by omega) (by omega) (fun c63 => ?_) (fun c63 => by exfalso; omega) | refine m_icmp_gt 128 dX12_many_63 (by decide) (fun c63 => ?_) (fun c63 => by exfalso; omega)
            exact hend
          · have h7 : j = i + 1 := by omega
            subst h7
            refine m_iload dX12_many_59 rfl ?_
            refine m_bipushN 6 dX12_many_61 (by decide) ?_
            first | refine m_icmp_gtN 128 dX12_many_63 (by decide) (by omega) (by omega) (fun c63 => by exfalso; omega) (fun c63 => ?_) | refine m_icmp_gt 128 dX12_many_63 (by decide) (fun c63 => by exfalso; omega) (fun c63 => ?_)
            refine m_iload dX12_many_66 rfl ?_
            refine m_iload_n dX12_many_68 rfl ?_
            first | refine m_icmp_gtN 128 dX12_many_69 (by decide) (by omega) (by omega) (fun c69 => ?_) (fun c69 => by exfalso; omega) | refine m_icmp_gt 128 dX12_many_69 (by decide) (fun c69 => ?_) (fun c69 => by exfalso; omega)
            exact hend
        )
      refine m_iload_n dX12_many_49 rfl ?_
      refine m_iload_n dX12_many_50 rfl ?_
      first | refine m_icmp_gtN 145 dX12_many_51 (by decide) (by omega) (by omega) (fun c51 => by exfalso; omega) (fun c51 => ?_) | refine m_icmp_gt 145 dX12_many_51 (by decide) (fun c51 => by exfalso; omega) (fun c51 => ?_)
      refine m_lconstN 0 dX12_many_54 (by decide) ?_
      refine m_lstore_n dX12_many_55 (Nat.le_of_ble_eq_true rfl) rfl ?_
      refine m_iconstN 1 dX12_many_56 (by decide) ?_
      refine m_istore dX12_many_57 (Nat.le_of_ble_eq_true rfl) rfl ?_
      exact inner 0 (Nat.zero_le _) _ _
    · have e6 : i = m := by omega
      subst e6
      refine m_iload_n dX12_many_49 rfl ?_
      refine m_iload_n dX12_many_50 rfl ?_
      first | refine m_icmp_gtN 145 dX12_many_51 (by decide) (by omega) (by omega) (fun c51 => ?_) (fun c51 => by exfalso; omega) | refine m_icmp_gt 145 dX12_many_51 (by decide) (fun c51 => ?_) (fun c51 => by exfalso; omega)
      refine m_aload_n dX12_many_145 rfl ?_
      refine m_get fl_X12_74 (by decide) rfl rfl dX12_many_146 ?_
      refine m_iload_n dX12_many_149 rfl ?_
      refine m_lald hL (by omega) dX12_many_150 ?_
      refine m_eql (g2 i (Nat.le_refl _)) ?_
      first | refine m_l2iN dX12_many_151 ?_ | refine m_l2i dX12_many_151 ?_
      exact m_iret (ty := .int) hR dX12_many_152 (⟨rfl, g3⟩)
    )
  have loop1 : ∀ i, i ≤ 6 → ∀ d1, (∀ c, c < i → d1.1 255 c = nI (tg (c + 1))) → chg [255, 260] d d1 → mG W K cX12_many RX12 (dep + 1) d1 15 [some (.ref (xad W 240)), some (.int (nI m)), some (.int (nI i)), none, none, none, none, none] [] := x_up _ (fun i hi ih d1 g1 g2 => by
    by_cases hin : i < 6
    · skip
      refine m_iload_n dX12_many_15 rfl ?_
      refine m_bipushN 6 dX12_many_16 (by decide) ?_
      first | refine m_icmp_geN 40 dX12_many_18 (by decide) (by omega) (by omega) (fun c18 => by exfalso; omega) (fun c18 => ?_) | refine m_icmp_ge 40 dX12_many_18 (by decide) (fun c18 => by exfalso; omega) (fun c18 => ?_)
      refine m_aload_n dX12_many_21 rfl ?_
      refine m_get fl_X12_59 (by decide) rfl rfl dX12_many_22 ?_
      refine m_iload_n dX12_many_25 rfl ?_
      refine m_aload_n dX12_many_26 rfl ?_
      refine m_iload_n dX12_many_27 rfl ?_
      refine m_iconstN 1 dX12_many_28 (by decide) ?_
      first | refine m_iaddN dX12_many_29 ?_ | refine m_iadd dX12_many_29 ?_
      refine m_callVIp (s_X12_togetherOf (m := i + 1) (h1.fr g2 (by simp) (by simp)) (by omega)) cv_X12_251 dX12_many_30 ?_
      refine m_eqi ((by rw [htg0] : _ = nI (tg (i + 1)))) ?_
      refine m_iast (by first | exact ⟨by decide, by decide, fun _ => rfl⟩ | exact isI_arr _ (by omega) | exact isI_mv _ (by omega) | exact isI_ne _ (by omega)) (by omega) dX12_many_33 ?_
      first | refine m_iincN 1 dX12_many_34 (by decide) rfl rfl ?_ | refine m_iinc dX12_many_34 rfl rfl ?_
      refine m_goto 15 dX12_many_37 (by decide) ?_
      refine ih hin _ (fun c hc => ?_) (g2.se (by simp))
      by_cases e : c = i
      · subst e; exact se_s _ _ _ _
      · exact se_e2 (g1 c (by omega)) e
    · have e6 : i = 6 := by omega
      subst e6
      refine m_iload_n dX12_many_15 rfl ?_
      refine m_bipushN 6 dX12_many_16 (by decide) ?_
      first | refine m_icmp_geN 40 dX12_many_18 (by decide) (by omega) (by omega) (fun c18 => ?_) (fun c18 => by exfalso; omega) | refine m_icmp_ge 40 dX12_many_18 (by decide) (fun c18 => ?_) (fun c18 => by exfalso; omega)
      refine m_aload_n dX12_many_40 rfl ?_
      refine m_get fl_X12_74 (by decide) rfl rfl dX12_many_41 ?_
      refine m_iconstN 0 dX12_many_44 (by decide) ?_
      refine m_lconstN 1 dX12_many_45 (by decide) ?_
      refine m_last hL (by omega) dX12_many_46 ?_
      refine m_iconstN 1 dX12_many_47 (by decide) ?_
      refine m_istore_n dX12_many_48 (Nat.le_of_ble_eq_true rfl) rfl ?_
      refine loop2 0 (Nat.zero_le _) _ _ _ _ _ _ (fun c hc => g1 c hc) (fun q hq => ?_) (g2.seL (by simp))
      rw [show q = 0 by omega]
      exact seL_s' _ _ _ _
    )
  refine m_iload_n dX12_many_0 rfl ?_
  refine m_iconstN 0 dX12_many_1 (by decide) ?_
  refine m_bipushN 60 dX12_many_2 (by decide) ?_
  refine m_callSIp (s_X12_inY (x := nI m) (a := nI 0) (b := nI 60) ((nI_leI (by omega) (by omega)).mpr (by omega)) ((nI_leI (by omega) (by omega)).mpr (by omega))) cs_X12_83 dX12_many_4 ?_
  refine m_if_ne 13 dX12_many_7 (by decide) (fun c7 => ?_) (fun c7 => by exfalso; exact c7 (by decide))
  refine m_iconstN 0 dX12_many_13 (by decide) ?_
  refine m_istore_n dX12_many_14 (Nat.le_of_ble_eq_true rfl) rfl ?_
  exact loop1 0 (by decide) d (fun c hc => absurd hc (Nat.not_lt_zero c)) chg.rf
end MOD
