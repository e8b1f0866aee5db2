/-! class Heaps: parts and roots -/
theorem p2_lt {p : Nat} (hp : p < 6) : 2 ^ p < 64 := Nat.pow_lt_pow_right (by decide : 1 < 2) hp
def hang1 (k : Nat) (fb : Nat → Nat) (pr s q : Nat) : Nat := if pr.testBit q && decide (bw k fb q &&& s ≠ 0) then s ||| 2 ^ q else s
def hangR (k : Nat) (fb : Nat → Nat) (pr s n : Nat) : Nat := (List.range n).foldl (fun s q => hang1 k fb pr s q) s
def hangN (k : Nat) (fb : Nat → Nat) (pr s : Nat) : Nat → Nat
  | 0 => s
  | n + 1 => hangR k fb pr (hangN k fb pr s n) k
theorem hangR_s (k : Nat) (fb : Nat → Nat) (pr s n : Nat) : hangR k fb pr s (n + 1) = hang1 k fb pr (hangR k fb pr s n) n := by
  unfold hangR
  rw [List.range_succ, List.foldl_append]; rfl
theorem hangR_lt {k : Nat} {fb : Nat → Nat} {pr s : Nat} (hs : s < 64) : ∀ n, n ≤ 6 → hangR k fb pr s n < 64 := by
  intro n
  induction n with
  | zero => intro _; exact hs
  | succ n ih =>
    intro h
    rw [hangR_s]
    unfold hang1
    split
    · exact Nat.or_lt_two_pow (n := 6) (ih (by omega)) (Nat.pow_lt_pow_right (by decide) (by omega))
    · exact ih (by omega)
theorem hangN_lt {k : Nat} {fb : Nat → Nat} {pr s : Nat} (hk : k ≤ 6) (hs : s < 64) : ∀ n, hangN k fb pr s n < 64 := by
  intro n
  induction n with
  | zero => exact hs
  | succ n ih => exact hangR_lt ih k hk
/-- the letters that hang together with p -/
def hang (k : Nat) (fb : Nat → Nat) (pr p : Nat) : Nat := hangN k fb pr (2 ^ p) k
theorem hang_lt {k : Nat} {fb : Nat → Nat} {pr p : Nat} (hk : k ≤ 6) (hp : p < 6) : hang k fb pr p < 64 := hangN_lt hk (p2_lt hp) k
def parts1 (k : Nat) (fb : Nat → Nat) (pr : Nat) (z : Nat × List Nat) (p : Nat) : Nat × List Nat := if pr.testBit p && !z.1.testBit p then (z.1 ||| hang k fb pr p, z.2 ++ [hang k fb pr p]) else z
def partsF (k : Nat) (fb : Nat → Nat) (pr n : Nat) : Nat × List Nat := (List.range n).foldl (parts1 k fb pr) (0, [])
theorem partsF_s (k : Nat) (fb : Nat → Nat) (pr n : Nat) : partsF k fb pr (n + 1) = parts1 k fb pr (partsF k fb pr n) n := by
  unfold partsF
  rw [List.range_succ, List.foldl_append]; rfl
theorem partsF_pre (k : Nat) (fb : Nat → Nat) (pr : Nat) {n m : Nat} (h : n ≤ m) : (partsF k fb pr n).2 <+: (partsF k fb pr m).2 := by
  induction m with
  | zero => rw [show n = 0 by omega]; exact List.prefix_refl _
  | succ m ih =>
    by_cases e : n = m + 1
    · rw [e]; exact List.prefix_refl _
    · refine (ih (by omega)).trans ?_
      rw [partsF_s]
      unfold parts1
      split
      · exact List.prefix_append _ _
      · exact List.prefix_refl _
theorem partsF_lt {k : Nat} {fb : Nat → Nat} {pr : Nat} (hk : k ≤ 6) : ∀ n, n ≤ 6 → (partsF k fb pr n).1 < 64 := by
  intro n
  induction n with
  | zero => intro _; show 0 < 64; decide
  | succ n ih =>
    intro h
    rw [partsF_s]
    unfold parts1
    split
    · exact Nat.or_lt_two_pow (n := 6) (ih (by omega)) (hang_lt hk (by omega))
    · exact ih (by omega)
theorem partsF_len (k : Nat) (fb : Nat → Nat) (pr : Nat) : ∀ n, (partsF k fb pr n).2.length ≤ n := by
  intro n
  induction n with
  | zero => exact Nat.le_refl _
  | succ n ih =>
    rw [partsF_s]
    unfold parts1
    split
    · simp; exact ih
    · omega
section HEC
variable {l : Launch} {W : xW} {dep : Nat} {d : xD} {k : Nat} {fb : Nat → Nat} {j j2 : Nat} {xs ys : List Nat}
theorem s_X2_hangTogether (h : letIs d k fb) {p pr : Nat} (hp : p < 6) (hpr : pr < 64) : mSpecI l W mX2_hangTogether (dep + 1) [.ref (xad W 50), .int (nI p), .int (nI pr)] d (fun r d' => r = nI (hang k fb pr p) ∧ d' = d) := by
  have hk := h.2.2.2.1
  refine m_spec RX2 [some (.ref (xad W 50)), some (.int (nI p)), some (.int (nI pr)), none, none, none] rfl (by decide +kernel) rfl rfl (fun K hR => ?_)
  have inner : ∀ t, t < k → (∀ o5, mG W K cX2_hangTogether RX2 (dep + 1) d 7 [some (.ref (xad W 50)), some (.int (nI p)), some (.int (nI pr)), some (.int (nI (hangN k fb pr (2 ^ p) (t + 1)))), some (.int (nI (t + 1))), o5] []) → ∀ q, q ≤ k → mG W K cX2_hangTogether RX2 (dep + 1) d 22 [some (.ref (xad W 50)), some (.int (nI p)), some (.int (nI pr)), some (.int (nI (hangR k fb pr (hangN k fb pr (2 ^ p) t) q))), some (.int (nI t)), some (.int (nI q))] [] := fun t ht hc => x_up _ (fun q hq ih => by
    have h64 := hangR_lt (k := k) (fb := fb) (pr := pr) (hangN_lt (fb := fb) (pr := pr) hk (p2_lt hp) t) q (by omega)
    refine m_iload dX2_hangTogether_22 rfl ?_
    refine m_aload_n dX2_hangTogether_24 rfl ?_
    refine m_get fl_X2_24 (by decide) rfl rfl dX2_hangTogether_25 ?_
    refine m_callVIp (s_X3_size h) cv_X2_68 dX2_hangTogether_28 ?_
    first | refine m_icmp_geN 71 dX2_hangTogether_31 (by decide) (by omega) (by omega) (fun c31 => ?_) (fun c31 => ?_) | refine m_icmp_ge 71 dX2_hangTogether_31 (by decide) (fun c31 => ?_) (fun c31 => ?_)
    · first | refine m_iincN 1 dX2_hangTogether_71 (by decide) rfl rfl ?_ | refine m_iinc dX2_hangTogether_71 rfl rfl ?_
      refine m_goto 7 dX2_hangTogether_74 (by decide) ?_
      have e := hc (some (.int (nI q)))
      rw [show hangN k fb pr (2 ^ p) (t + 1) = hangR k fb pr (hangN k fb pr (2 ^ p) t) k from rfl, show k = q by omega] at e
      rw [show k = q by omega]
      exact e
    · refine m_iload_n dX2_hangTogether_34 rfl ?_
      refine m_iload dX2_hangTogether_35 rfl ?_
      refine m_ishr dX2_hangTogether_37 ?_
      refine m_iconstN 1 dX2_hangTogether_38 (by decide) ?_
      refine m_iand dX2_hangTogether_39 ?_
      refine m_eqi (nI_bit (by omega) (by omega)) ?_
      refine m_iconstN 1 dX2_hangTogether_40 (by decide) ?_
      have hb2 : (pr.testBit q).toNat < 2 := Bool.toNat_lt _
      first | refine m_icmp_neN 65 dX2_hangTogether_41 (by decide) (by omega) (by omega) (fun c41 => ?_) (fun c41 => ?_) | refine m_icmp_ne 65 dX2_hangTogether_41 (by decide) (fun c41 => ?_) (fun c41 => ?_)
      · first | refine m_iincN 1 dX2_hangTogether_65 (by decide) rfl rfl ?_ | refine m_iinc dX2_hangTogether_65 rfl rfl ?_
        refine m_goto 22 dX2_hangTogether_68 (by decide) ?_
        have e := ih (by omega)
        rw [hangR_s, hang1, if_neg (by cases hf : pr.testBit q <;> simp_all)] at e
        exact e
      · refine m_aload_n dX2_hangTogether_44 rfl ?_
        refine m_get fl_X2_24 (by decide) rfl rfl dX2_hangTogether_45 ?_
        refine m_iload dX2_hangTogether_48 rfl ?_
        refine m_callVIp (s_X3_boundWith h (p := q) (by omega)) cv_X2_28 dX2_hangTogether_50 ?_
        refine m_iload_n dX2_hangTogether_53 rfl ?_
        refine m_iand dX2_hangTogether_54 ?_
        refine m_eqi (nI_and _ _) ?_
        have hle : bw k fb q &&& hangR k fb pr (hangN k fb pr (2 ^ p) t) q ≤ hangR k fb pr (hangN k fb pr (2 ^ p) t) q := Nat.and_le_right
        first | refine m_if_eqN 65 dX2_hangTogether_55 (by decide) (by omega) (fun c55 => ?_) (fun c55 => ?_) | refine m_if_eq 65 dX2_hangTogether_55 (by decide) (fun c55 => ?_) (fun c55 => ?_)
        · first | refine m_iincN 1 dX2_hangTogether_65 (by decide) rfl rfl ?_ | refine m_iinc dX2_hangTogether_65 rfl rfl ?_
          refine m_goto 22 dX2_hangTogether_68 (by decide) ?_
          have e := ih (by omega)
          rw [hangR_s, hang1, if_neg (by cases hf : pr.testBit q <;> simp_all)] at e
          exact e
        · refine m_iload_n dX2_hangTogether_58 rfl ?_
          refine m_iconstN 1 dX2_hangTogether_59 (by decide) ?_
          refine m_iload dX2_hangTogether_60 rfl ?_
          refine m_ishl dX2_hangTogether_62 ?_
          refine m_eqi (nI_sb1 q (by omega)) ?_
          refine m_ior dX2_hangTogether_63 ?_
          refine m_eqi (nI_or _ _) ?_
          refine m_istore_n dX2_hangTogether_64 (Nat.le_of_ble_eq_true rfl) rfl ?_
          first | refine m_iincN 1 dX2_hangTogether_65 (by decide) rfl rfl ?_ | refine m_iinc dX2_hangTogether_65 rfl rfl ?_
          refine m_goto 22 dX2_hangTogether_68 (by decide) ?_
          have e := ih (by omega)
          rw [hangR_s, hang1, if_pos (by cases hf : pr.testBit q <;> simp_all)] at e
          exact e
    )
  have loop : ∀ t, t ≤ k → ∀ o5, mG W K cX2_hangTogether RX2 (dep + 1) d 7 [some (.ref (xad W 50)), some (.int (nI p)), some (.int (nI pr)), some (.int (nI (hangN k fb pr (2 ^ p) t))), some (.int (nI t)), o5] [] := x_up _ (fun t ht ih o5 => by
    refine m_iload dX2_hangTogether_7 rfl ?_
    refine m_aload_n dX2_hangTogether_9 rfl ?_
    refine m_get fl_X2_24 (by decide) rfl rfl dX2_hangTogether_10 ?_
    refine m_callVIp (s_X3_size h) cv_X2_68 dX2_hangTogether_13 ?_
    first | refine m_icmp_geN 77 dX2_hangTogether_16 (by decide) (by omega) (by omega) (fun c16 => ?_) (fun c16 => ?_) | refine m_icmp_ge 77 dX2_hangTogether_16 (by decide) (fun c16 => ?_) (fun c16 => ?_)
    · have e6 : t = k := by omega
      subst e6
      refine m_iload_n dX2_hangTogether_77 rfl ?_
      exact m_iret (ty := .int) hR dX2_hangTogether_78 (⟨rfl, rfl⟩)
    · refine m_iconstN 0 dX2_hangTogether_19 (by decide) ?_
      refine m_istore dX2_hangTogether_20 (Nat.le_of_ble_eq_true rfl) rfl ?_
      exact inner t (by omega) (ih (by omega)) 0 (Nat.zero_le _)
    )
  refine m_iconstN 1 dX2_hangTogether_0 (by decide) ?_
  refine m_iload_n dX2_hangTogether_1 rfl ?_
  refine m_ishl dX2_hangTogether_2 ?_
  refine m_eqi (nI_sb1 p hp) ?_
  refine m_istore_n dX2_hangTogether_3 (Nat.le_of_ble_eq_true rfl) rfl ?_
  refine m_iconstN 0 dX2_hangTogether_4 (by decide) ?_
  refine m_istore dX2_hangTogether_5 (Nat.le_of_ble_eq_true rfl) rfl ?_
  exact loop 0 (Nat.zero_le _) none
theorem s_X2_partBits (h : letIs d k fb) (hj : j < 13) (hr : rowIs d j xs) {n : Nat} (hn : n < 2 ^ 31) : mSpecI l W mX2_partBits (dep + 2) [.ref (xad W 50), .ref (xad W (j + 4)), .int (nI n)] d (fun r d' => r = optI ((partsF k fb (bitsOf xs) k).2[n]?) ∧ d' = d) := by
  have hk := h.2.2.2.1
  have hpr := bits_lt hr.2.2.2
  have hneg : ¬ nI n = -1 := fun z => by have := nI_pos hn; rw [z] at this; exact this (by decide)
  refine m_spec RX2 [some (.ref (xad W 50)), some (.ref (xad W (j + 4))), some (.int (nI n)), none, none, none, none, none] rfl (by decide +kernel) rfl rfl (fun K hR => ?_)
  have loop : ∀ p, p ≤ k → (partsF k fb (bitsOf xs) p).2.length ≤ n → ∀ o7, mG W K cX2_partBits RX2 (dep + 2) d 14 [some (.ref (xad W 50)), some (.ref (xad W (j + 4))), some (.int (nI n)), some (.int (nI (bitsOf xs))), some (.int (nI (partsF k fb (bitsOf xs) p).1)), some (.int (nI (partsF k fb (bitsOf xs) p).2.length)), some (.int (nI p)), o7] [] := x_up _ (fun p hp ih g o7 => by
    have h64 := partsF_lt (fb := fb) (pr := bitsOf xs) hk p (by omega)
    have hpl := partsF_len k fb (bitsOf xs) p
    have hpre := partsF_pre k fb (bitsOf xs) (n := p + 1) (m := k)
    refine m_iload dX2_partBits_14 rfl ?_
    refine m_aload_n dX2_partBits_16 rfl ?_
    refine m_get fl_X2_24 (by decide) rfl rfl dX2_partBits_17 ?_
    refine m_callVIp (s_X3_size h) cv_X2_68 dX2_partBits_20 ?_
    first | refine m_icmp_geN 80 dX2_partBits_23 (by decide) (by omega) (by omega) (fun c23 => ?_) (fun c23 => ?_) | refine m_icmp_ge 80 dX2_partBits_23 (by decide) (fun c23 => ?_) (fun c23 => ?_)
    · refine m_iload_n dX2_partBits_80 rfl ?_
      refine m_iconst (v := -1) dX2_partBits_81 (by decide) ?_
      refine m_icmp_ne 90 dX2_partBits_82 (by decide) (fun c82 => ?_) (fun c82 => by exfalso; exact c82 hneg)
      refine m_iconst (v := -1) dX2_partBits_90 (by decide) ?_
      have e6 : p = k := by omega
      subst e6
      exact m_iret (ty := .int) hR dX2_partBits_91 (⟨by rw [List.getElem?_eq_none g]; rfl, rfl⟩)
    · refine m_iload_n dX2_partBits_26 rfl ?_
      refine m_iload dX2_partBits_27 rfl ?_
      refine m_ishr dX2_partBits_29 ?_
      refine m_iconstN 1 dX2_partBits_30 (by decide) ?_
      refine m_iand dX2_partBits_31 ?_
      refine m_eqi (nI_bit (by omega) (by omega)) ?_
      refine m_iconstN 1 dX2_partBits_32 (by decide) ?_
      have hb2 : ((bitsOf xs).testBit p).toNat < 2 := Bool.toNat_lt _
      first | refine m_icmp_neN 74 dX2_partBits_33 (by decide) (by omega) (by omega) (fun c33 => ?_) (fun c33 => ?_) | refine m_icmp_ne 74 dX2_partBits_33 (by decide) (fun c33 => ?_) (fun c33 => ?_)
      · first | refine m_iincN 1 dX2_partBits_74 (by decide) rfl rfl ?_ | refine m_iinc dX2_partBits_74 rfl rfl ?_
        refine m_goto 14 dX2_partBits_77 (by decide) ?_
        have hq : partsF k fb (bitsOf xs) (p + 1) = partsF k fb (bitsOf xs) p := by
          rw [partsF_s, parts1, if_neg]
          cases hf1 : (bitsOf xs).testBit p <;> simp_all
        have e := ih (by omega) (by rw [hq]; exact g) o7
        rw [hq] at e
        exact e
      · refine m_iload dX2_partBits_36 rfl ?_
        refine m_iload dX2_partBits_38 rfl ?_
        refine m_ishr dX2_partBits_40 ?_
        refine m_iconstN 1 dX2_partBits_41 (by decide) ?_
        refine m_iand dX2_partBits_42 ?_
        refine m_eqi (nI_bit (by omega) (by omega)) ?_
        refine m_if_ne 74 dX2_partBits_43 (by decide) (fun c43 => ?_) (fun c43 => ?_)
        · first | refine m_iincN 1 dX2_partBits_74 (by decide) rfl rfl ?_ | refine m_iinc dX2_partBits_74 rfl rfl ?_
          refine m_goto 14 dX2_partBits_77 (by decide) ?_
          have hq : partsF k fb (bitsOf xs) (p + 1) = partsF k fb (bitsOf xs) p := by
            rw [partsF_s, parts1, if_neg]
            cases hf1 : (partsF k fb (bitsOf xs) p).1.testBit p
            · rw [hf1] at c43; exact absurd rfl c43
            · simp
          have e := ih (by omega) (by rw [hq]; exact g) o7
          rw [hq] at e
          exact e
        · refine m_aload_n dX2_partBits_46 rfl ?_
          refine m_iload dX2_partBits_47 rfl ?_
          refine m_iload_n dX2_partBits_49 rfl ?_
          refine m_callVIp (s_X2_hangTogether h (p := p) (pr := bitsOf xs) (by omega) hpr) cv_X2_100 dX2_partBits_50 ?_
          refine m_istore dX2_partBits_53 (Nat.le_of_ble_eq_true rfl) rfl ?_
          refine m_iload dX2_partBits_55 rfl ?_
          refine m_iload_n dX2_partBits_57 rfl ?_
          first | refine m_icmp_neN 64 dX2_partBits_58 (by decide) (by omega) (by omega) (fun c58 => ?_) (fun c58 => ?_) | refine m_icmp_ne 64 dX2_partBits_58 (by decide) (fun c58 => ?_) (fun c58 => ?_)
          · refine m_iload dX2_partBits_64 rfl ?_
            refine m_iload dX2_partBits_66 rfl ?_
            refine m_ior dX2_partBits_68 ?_
            refine m_eqi (nI_or _ _) ?_
            refine m_istore dX2_partBits_69 (Nat.le_of_ble_eq_true rfl) rfl ?_
            first | refine m_iincN 1 dX2_partBits_71 (by decide) rfl rfl ?_ | refine m_iinc dX2_partBits_71 rfl rfl ?_
            first | refine m_iincN 1 dX2_partBits_74 (by decide) rfl rfl ?_ | refine m_iinc dX2_partBits_74 rfl rfl ?_
            refine m_goto 14 dX2_partBits_77 (by decide) ?_
            have hq : partsF k fb (bitsOf xs) (p + 1) = ((partsF k fb (bitsOf xs) p).1 ||| hang k fb (bitsOf xs) p, (partsF k fb (bitsOf xs) p).2 ++ [hang k fb (bitsOf xs) p]) := by
              rw [partsF_s, parts1, if_pos]
              cases hf1 : (bitsOf xs).testBit p <;> cases hf2 : (partsF k fb (bitsOf xs) p).1.testBit p <;> simp_all <;> exact absurd c43 (by decide)
            have e := ih (by omega) (by rw [hq]; simp; omega) (some (.int (nI (hang k fb (bitsOf xs) p))))
            rw [hq] at e
            simp only [List.length_append, List.length_cons, List.length_nil, Nat.zero_add] at e
            exact e
          · refine m_iload dX2_partBits_61 rfl ?_
            have hq : partsF k fb (bitsOf xs) (p + 1) = ((partsF k fb (bitsOf xs) p).1 ||| hang k fb (bitsOf xs) p, (partsF k fb (bitsOf xs) p).2 ++ [hang k fb (bitsOf xs) p]) := by
              rw [partsF_s, parts1, if_pos]
              cases hf1 : (bitsOf xs).testBit p <;> cases hf2 : (partsF k fb (bitsOf xs) p).1.testBit p <;> simp_all <;> exact absurd c43 (by decide)
            have hget : (partsF k fb (bitsOf xs) k).2[n]? = some (hang k fb (bitsOf xs) p) := by
              obtain ⟨z, hz⟩ := hpre (by omega)
              rw [← hz, hq]
              have en : (partsF k fb (bitsOf xs) p).2.length = n := Decidable.not_not.mp c58
              rw [List.append_assoc, List.getElem?_append_right (by omega), en]
              simp
            exact m_iret (ty := .int) hR dX2_partBits_63 (⟨by rw [hget]; rfl, rfl⟩)
    )
  refine m_aload_n dX2_partBits_0 rfl ?_
  refine m_callVIp (s_X9_bits hj hr) cv_X2_97 dX2_partBits_1 ?_
  refine m_istore_n dX2_partBits_4 (Nat.le_of_ble_eq_true rfl) rfl ?_
  refine m_iconstN 0 dX2_partBits_5 (by decide) ?_
  refine m_istore dX2_partBits_6 (Nat.le_of_ble_eq_true rfl) rfl ?_
  refine m_iconstN 0 dX2_partBits_8 (by decide) ?_
  refine m_istore dX2_partBits_9 (Nat.le_of_ble_eq_true rfl) rfl ?_
  refine m_iconstN 0 dX2_partBits_11 (by decide) ?_
  refine m_istore dX2_partBits_12 (Nat.le_of_ble_eq_true rfl) rfl ?_
  exact loop 0 (Nat.zero_le _) (Nat.zero_le _) none
theorem s_X2_partBitsM (h : letIs d k fb) (hj : j < 13) (hr : rowIs d j xs) : mSpecI l W mX2_partBits (dep + 2) [.ref (xad W 50), .ref (xad W (j + 4)), .int (-1)] d (fun r d' => r = nI (partsF k fb (bitsOf xs) k).2.length ∧ d' = d) := by
  have hk := h.2.2.2.1
  have hpr := bits_lt hr.2.2.2
  have hneg : ∀ n, n < 2 ^ 31 → ¬ nI n = -1 := fun n hn z => by have := nI_pos hn; rw [z] at this; exact this (by decide)
  refine m_spec RX2 [some (.ref (xad W 50)), some (.ref (xad W (j + 4))), some (.int (-1)), none, none, none, none, none] rfl (by decide +kernel) rfl rfl (fun K hR => ?_)
  have loop : ∀ p, p ≤ k → ∀ o7, mG W K cX2_partBits RX2 (dep + 2) d 14 [some (.ref (xad W 50)), some (.ref (xad W (j + 4))), some (.int (-1)), some (.int (nI (bitsOf xs))), some (.int (nI (partsF k fb (bitsOf xs) p).1)), some (.int (nI (partsF k fb (bitsOf xs) p).2.length)), some (.int (nI p)), o7] [] := x_up _ (fun p hp ih o7 => by
    have h64 := partsF_lt (fb := fb) (pr := bitsOf xs) hk p (by omega)
    have hpl := partsF_len k fb (bitsOf xs) p
    refine m_iload dX2_partBits_14 rfl ?_
    refine m_aload_n dX2_partBits_16 rfl ?_
    refine m_get fl_X2_24 (by decide) rfl rfl dX2_partBits_17 ?_
    refine m_callVIp (s_X3_size h) cv_X2_68 dX2_partBits_20 ?_
    first | refine m_icmp_geN 80 dX2_partBits_23 (by decide) (by omega) (by omega) (fun c23 => ?_) (fun c23 => ?_) | refine m_icmp_ge 80 dX2_partBits_23 (by decide) (fun c23 => ?_) (fun c23 => ?_)
    · refine m_iload_n dX2_partBits_80 rfl ?_
      refine m_iconst (v := -1) dX2_partBits_81 (by decide) ?_
      refine m_icmp_ne 90 dX2_partBits_82 (by decide) (fun c82 => by exfalso; exact c82 rfl) (fun c82 => ?_)
      refine m_iload dX2_partBits_85 rfl ?_
      refine m_goto 91 dX2_partBits_87 (by decide) ?_
      have e6 : p = k := by omega
      subst e6
      exact m_iret (ty := .int) hR dX2_partBits_91 (⟨rfl, rfl⟩)
    · refine m_iload_n dX2_partBits_26 rfl ?_
      refine m_iload dX2_partBits_27 rfl ?_
      refine m_ishr dX2_partBits_29 ?_
      refine m_iconstN 1 dX2_partBits_30 (by decide) ?_
      refine m_iand dX2_partBits_31 ?_
      refine m_eqi (nI_bit (by omega) (by omega)) ?_
      refine m_iconstN 1 dX2_partBits_32 (by decide) ?_
      have hb2 : ((bitsOf xs).testBit p).toNat < 2 := Bool.toNat_lt _
      first | refine m_icmp_neN 74 dX2_partBits_33 (by decide) (by omega) (by omega) (fun c33 => ?_) (fun c33 => ?_) | refine m_icmp_ne 74 dX2_partBits_33 (by decide) (fun c33 => ?_) (fun c33 => ?_)
      · first | refine m_iincN 1 dX2_partBits_74 (by decide) rfl rfl ?_ | refine m_iinc dX2_partBits_74 rfl rfl ?_
        refine m_goto 14 dX2_partBits_77 (by decide) ?_
        have hq : partsF k fb (bitsOf xs) (p + 1) = partsF k fb (bitsOf xs) p := by
          rw [partsF_s, parts1, if_neg]
          cases hf1 : (bitsOf xs).testBit p <;> simp_all
        have e := ih (by omega) o7
        rw [hq] at e
        exact e
      · refine m_iload dX2_partBits_36 rfl ?_
        refine m_iload dX2_partBits_38 rfl ?_
        refine m_ishr dX2_partBits_40 ?_
        refine m_iconstN 1 dX2_partBits_41 (by decide) ?_
        refine m_iand dX2_partBits_42 ?_
        refine m_eqi (nI_bit (by omega) (by omega)) ?_
        refine m_if_ne 74 dX2_partBits_43 (by decide) (fun c43 => ?_) (fun c43 => ?_)
        · first | refine m_iincN 1 dX2_partBits_74 (by decide) rfl rfl ?_ | refine m_iinc dX2_partBits_74 rfl rfl ?_
          refine m_goto 14 dX2_partBits_77 (by decide) ?_
          have hq : partsF k fb (bitsOf xs) (p + 1) = partsF k fb (bitsOf xs) p := by
            rw [partsF_s, parts1, if_neg]
            cases hf1 : (partsF k fb (bitsOf xs) p).1.testBit p
            · rw [hf1] at c43; exact absurd rfl c43
            · simp
          have e := ih (by omega) o7
          rw [hq] at e
          exact e
        · refine m_aload_n dX2_partBits_46 rfl ?_
          refine m_iload dX2_partBits_47 rfl ?_
          refine m_iload_n dX2_partBits_49 rfl ?_
          refine m_callVIp (s_X2_hangTogether h (p := p) (pr := bitsOf xs) (by omega) hpr) cv_X2_100 dX2_partBits_50 ?_
          refine m_istore dX2_partBits_53 (Nat.le_of_ble_eq_true rfl) rfl ?_
          refine m_iload dX2_partBits_55 rfl ?_
          refine m_iload_n dX2_partBits_57 rfl ?_
          refine m_icmp_ne 64 dX2_partBits_58 (by decide) (fun c58 => ?_) (fun c58 => by exfalso; exact c58 (hneg _ (by omega)))
          refine m_iload dX2_partBits_64 rfl ?_
          refine m_iload dX2_partBits_66 rfl ?_
          refine m_ior dX2_partBits_68 ?_
          refine m_eqi (nI_or _ _) ?_
          refine m_istore dX2_partBits_69 (Nat.le_of_ble_eq_true rfl) rfl ?_
          first | refine m_iincN 1 dX2_partBits_71 (by decide) rfl rfl ?_ | refine m_iinc dX2_partBits_71 rfl rfl ?_
          first | refine m_iincN 1 dX2_partBits_74 (by decide) rfl rfl ?_ | refine m_iinc dX2_partBits_74 rfl rfl ?_
          refine m_goto 14 dX2_partBits_77 (by decide) ?_
          have hq : partsF k fb (bitsOf xs) (p + 1) = ((partsF k fb (bitsOf xs) p).1 ||| hang k fb (bitsOf xs) p, (partsF k fb (bitsOf xs) p).2 ++ [hang k fb (bitsOf xs) p]) := by
            rw [partsF_s, parts1, if_pos]
            cases hf1 : (bitsOf xs).testBit p <;> cases hf2 : (partsF k fb (bitsOf xs) p).1.testBit p <;> simp_all <;> exact absurd c43 (by decide)
          have e := ih (by omega) (some (.int (nI (hang k fb (bitsOf xs) p))))
          rw [hq] at e
          simp only [List.length_append, List.length_cons, List.length_nil, Nat.zero_add] at e
          exact e
    )
  refine m_aload_n dX2_partBits_0 rfl ?_
  refine m_callVIp (s_X9_bits hj hr) cv_X2_97 dX2_partBits_1 ?_
  refine m_istore_n dX2_partBits_4 (Nat.le_of_ble_eq_true rfl) rfl ?_
  refine m_iconstN 0 dX2_partBits_5 (by decide) ?_
  refine m_istore dX2_partBits_6 (Nat.le_of_ble_eq_true rfl) rfl ?_
  refine m_iconstN 0 dX2_partBits_8 (by decide) ?_
  refine m_istore dX2_partBits_9 (Nat.le_of_ble_eq_true rfl) rfl ?_
  refine m_iconstN 0 dX2_partBits_11 (by decide) ?_
  refine m_istore dX2_partBits_12 (Nat.le_of_ble_eq_true rfl) rfl ?_
  exact loop 0 (Nat.zero_le _) none
end HEC
/-- the letters of one of n pieces -/
def piece1 (xs : List Nat) (n : Nat) (ps : List Nat) (x : Nat) : List Nat := if ps.count x < xs.count x / n then ps ++ [x] else ps
def pieceF (xs : List Nat) (n i : Nat) : List Nat := (xs.take i).foldl (piece1 xs n) []
theorem pieceF_s {xs : List Nat} {n i : Nat} (h : i < xs.length) : pieceF xs n (i + 1) = piece1 xs n (pieceF xs n i) xs[i] := by
  unfold pieceF
  rw [take_s h, List.foldl_append]; rfl
theorem pieceF_cnt (xs : List Nat) (n : Nat) : ∀ i, i ≤ xs.length → ∀ x, (pieceF xs n i).count x ≤ xs.count x / n := by
  intro i
  induction i with
  | zero => intro _ x; simp [pieceF]
  | succ i ih =>
    intro h x
    have := ih (by omega) x
    rw [pieceF_s (by omega)]
    unfold piece1
    split
    next hc =>
      rw [List.count_append, List.count_singleton]
      by_cases e : xs[i] = x
      · subst e; simp; omega
      · rw [if_neg (by simpa using e)]; omega
    next => exact this
theorem len_cnt (xs : List Nat) (h : ∀ x ∈ xs, x < 6) : xs.length = xs.count 0 + xs.count 1 + xs.count 2 + xs.count 3 + xs.count 4 + xs.count 5 := by
  induction xs with
  | nil => rfl
  | cons x t ih =>
    have hx := h x List.mem_cons_self
    have := ih (fun y hy => h y (List.mem_cons_of_mem _ hy))
    rw [List.length_cons, List.count_cons, List.count_cons, List.count_cons, List.count_cons, List.count_cons, List.count_cons]
    rcases (show x = 0 ∨ x = 1 ∨ x = 2 ∨ x = 3 ∨ x = 4 ∨ x = 5 by omega) with rfl | rfl | rfl | rfl | rfl | rfl <;> simp <;> omega
theorem pieceF_mem {xs : List Nat} {n : Nat} : ∀ i, i ≤ xs.length → ∀ x ∈ pieceF xs n i, x ∈ xs := by
  intro i
  induction i with
  | zero => intro _ x hx; simp [pieceF] at hx
  | succ i ih =>
    intro h x hx
    rw [pieceF_s (by omega)] at hx
    unfold piece1 at hx
    split at hx
    · rcases List.mem_append.mp hx with hx | hx
      · exact ih (by omega) x hx
      · rw [List.mem_singleton.mp hx]; exact List.getElem_mem _
    · exact ih (by omega) x hx
theorem pieceF_len {xs : List Nat} {n i : Nat} (h : ∀ x ∈ xs, x < 6) (hi : i ≤ xs.length) : n * (pieceF xs n i).length ≤ xs.length := by
  have h1 := len_cnt xs h
  have h2 := len_cnt (pieceF xs n i) (fun x hx => h x (pieceF_mem i hi x hx))
  have h3 : ∀ x, n * (pieceF xs n i).count x ≤ xs.count x := fun x => Nat.le_trans (Nat.mul_le_mul_left n (pieceF_cnt xs n i hi x)) (Nat.mul_div_le _ _)
  have a0 := h3 0
  have a1 := h3 1
  have a2 := h3 2
  have a3 := h3 3
  have a4 := h3 4
  have a5 := h3 5
  rw [h2]
  simp only [Nat.mul_add]
  omega
def powF (ps : List Nat) : Nat → List Nat
  | 0 => []
  | n + 1 => powF ps n ++ ps
theorem powF_len (ps : List Nat) (n : Nat) : (powF ps n).length = n * ps.length := by
  induction n with
  | zero => simp [powF]
  | succ n ih => simp [powF, ih, Nat.succ_mul]
def cntOk (k : Nat) (xs : List Nat) (n : Nat) : Bool := (List.range k).all (fun p => decide (xs.count p % n = 0))
def isPow (k : Nat) (fb : Nat → Nat) (xs : List Nat) (n : Nat) : Bool := cntOk k xs n && eqvB k fb xs (powF (pieceF xs n xs.length) n)
def rootF (P : Nat → Bool) : Nat → Nat
  | 0 => 0
  | n + 1 => if P (n + 1) then n + 1 else rootF P n
section HED
variable {l : Launch} {W : xW} {dep : Nat} {d : xD} {k : Nat} {fb : Nat → Nat} {j j2 : Nat} {xs ys : List Nat}
theorem s_X2_isPower (h : letIs d k fb) (hj : j < 13) (hj6 : j ≠ 6) (hj7 : j ≠ 7) (hr : rowIs d j xs) {n : Nat} (hn : 1 ≤ n) (hn2 : n ≤ 24) : mSpecI l W mX2_isPower (dep + 4) [.ref (xad W 50), .ref (xad W (j + 4)), .int (nI n)] d (fun r d' => r = (if isPow k fb xs n then 1 else 0) ∧ chg [10, 23, 11, 24] d d') := by
  have hk := h.2.2.2.1
  have h24 := hr.1
  have hmul : ∀ t (m : Nat), t ≤ n → t * m ≤ n * m := fun t m ht => Nat.mul_le_mul_right m ht
  have hcl : ∀ x, xs.count x ≤ 24 := fun x => Nat.le_trans List.count_le_length h24
  refine m_spec RX2 [some (.ref (xad W 50)), some (.ref (xad W (j + 4))), some (.int (nI n)), none, none] rfl (by decide +kernel) rfl rfl (fun K hR => ?_)
  have hps := pieceF_len (xs := xs) (n := n) (i := xs.length) hr.2.2.2 (Nat.le_refl _)
  have loop3 : cntOk k xs n = true → ∀ t, t ≤ n → ∀ d1 o4, rowIs d1 6 (pieceF xs n xs.length) → rowIs d1 7 (powF (pieceF xs n xs.length) t) → chg [10, 23, 11, 24] d d1 → mG W K cX2_isPower RX2 (dep + 4) d1 107 [some (.ref (xad W 50)), some (.ref (xad W (j + 4))), some (.int (nI n)), some (.int (nI t)), o4] [] := fun hcn => x_up _ (fun t ht ih d1 o4 g1 g2 g3 => by
    have hl1 : letIs d1 k fb := h.fr g3 (by simp) (by simp)
    have hr1 : rowIs d1 j xs := hr.fr g3 (by simp; omega) (by simp; omega)
    have hpl := powF_len (pieceF xs n xs.length) t
    have hm1 := hmul (t + 1) (pieceF xs n xs.length).length
    rw [Nat.succ_mul] at hm1
    refine m_iload_n dX2_isPower_107 rfl ?_
    refine m_iload_n dX2_isPower_108 rfl ?_
    first | refine m_icmp_geN 130 dX2_isPower_109 (by decide) (by omega) (by omega) (fun c109 => ?_) (fun c109 => ?_) | refine m_icmp_ge 130 dX2_isPower_109 (by decide) (fun c109 => ?_) (fun c109 => ?_)
    · refine m_aload_n dX2_isPower_130 rfl ?_
      refine m_aload_n dX2_isPower_131 rfl ?_
      refine m_aload_n dX2_isPower_132 rfl ?_
      refine m_get fl_X2_21 (by decide) rfl rfl dX2_isPower_133 ?_
      refine m_callVI (s_X2_firstUnlikeLook hl1 hj hr1 (j2 := 7) (by decide) g2) cv_X2_64 dX2_isPower_136 (fun r136 d136 h136 => ?_)
      obtain ⟨h136, rfl⟩ := h136
      have et : t = n := by omega
      subst et
      refine m_iconst (v := -1) dX2_isPower_139 (by decide) ?_
      refine m_icmp_ne 147 dX2_isPower_140 (by decide) (fun c140 => ?_) (fun c140 => ?_)
      · refine m_iconstN 0 dX2_isPower_147 (by decide) ?_
        exact m_iret (ty := .boolean) hR dX2_isPower_148 (⟨by unfold isPow; rw [hcn, Bool.true_and, if_neg (fun z => c140 ((h136.eqv hk).mpr z))]; rfl, g3⟩)
      · refine m_iconstN 1 dX2_isPower_143 (by decide) ?_
        refine m_goto 148 dX2_isPower_144 (by decide) ?_
        exact m_iret (ty := .boolean) hR dX2_isPower_148 (⟨by unfold isPow; rw [hcn, Bool.true_and, if_pos ((h136.eqv hk).mp (Decidable.not_not.mp c140))]; rfl, g3⟩)
    · refine m_aload_n dX2_isPower_112 rfl ?_
      refine m_get fl_X2_21 (by decide) rfl rfl dX2_isPower_113 ?_
      refine m_aload_n dX2_isPower_116 rfl ?_
      refine m_get fl_X2_18 (by decide) rfl rfl dX2_isPower_117 ?_
      refine m_callVI (s_X9_append (j := 6) (k := 7) (by decide) (by decide) (by decide) g1 g2 (by omega)) cv_X2_110 dX2_isPower_120 (fun r120 d120 h120 => ?_)
      refine m_pop dX2_isPower_123 rfl ?_
      first | refine m_iincN 1 dX2_isPower_124 (by decide) rfl rfl ?_ | refine m_iinc dX2_isPower_124 rfl rfl ?_
      refine m_goto 107 dX2_isPower_127 (by decide) ?_
      exact ih (by omega) _ _ (g1.fr h120.2.2 (by simp) (by simp)) h120.2.1 (g3.tr (h120.2.2.mono (by simp)))
    )
  have loop2 : cntOk k xs n = true → ∀ i, i ≤ xs.length → ∀ d1 o4, rowIs d1 6 (pieceF xs n i) → chg [10, 23, 11, 24] d d1 → mG W K cX2_isPower RX2 (dep + 4) d1 47 [some (.ref (xad W 50)), some (.ref (xad W (j + 4))), some (.int (nI n)), some (.int (nI i)), o4] [] := fun hcn => x_up _ (fun i hi ih d1 o4 g1 g3 => by
    have hr1 : rowIs d1 j xs := hr.fr g3 (by simp; omega) (by simp; omega)
    refine m_iload_n dX2_isPower_47 rfl ?_
    refine m_aload_n dX2_isPower_48 rfl ?_
    refine m_callVIp (s_X9_length hj hr1) cv_X2_34 dX2_isPower_49 ?_
    first | refine m_icmp_geN 98 dX2_isPower_52 (by decide) (by omega) (by omega) (fun c52 => ?_) (fun c52 => ?_) | refine m_icmp_ge 98 dX2_isPower_52 (by decide) (fun c52 => ?_) (fun c52 => ?_)
    · refine m_aload_n dX2_isPower_98 rfl ?_
      refine m_get fl_X2_21 (by decide) rfl rfl dX2_isPower_99 ?_
      refine m_callVVp (s_X9_wipe (j := 7) (by decide)) cv_X2_53 dX2_isPower_102 ?_
      refine m_iconstN 0 dX2_isPower_105 (by decide) ?_
      refine m_istore_n dX2_isPower_106 (Nat.le_of_ble_eq_true rfl) rfl ?_
      exact loop3 hcn 0 (Nat.zero_le _) _ _ ((show i = xs.length by omega) ▸ (g1.of (by rw [seI_o _ _ _ _ _ (by decide)]) (fun q _ => by rw [seI_o _ _ _ _ _ (by decide)]))) (rowIs.nil (se_s _ _ _ _)) (g3.se (by simp))
    · refine m_aload_n dX2_isPower_55 rfl ?_
      refine m_iload_n dX2_isPower_56 rfl ?_
      refine m_callVIp (s_X9_atI hj hr1 (n := i) (by omega)) cv_X2_38 dX2_isPower_57 ?_
      refine m_istore dX2_isPower_60 (Nat.le_of_ble_eq_true rfl) rfl ?_
      refine m_aload_n dX2_isPower_62 rfl ?_
      refine m_get fl_X2_18 (by decide) rfl rfl dX2_isPower_63 ?_
      refine m_iload dX2_isPower_66 rfl ?_
      have hb := hr.lt (i := i) (by omega)
      refine m_callVIp (s_X9_howMany (j := 6) (by decide) g1 (x := xs[i]) (by omega)) cv_X2_107 dX2_isPower_68 ?_
      refine m_aload_n dX2_isPower_71 rfl ?_
      refine m_iload dX2_isPower_72 rfl ?_
      refine m_callVIp (s_X9_howMany hj hr1 (x := xs[i]) (by omega)) cv_X2_107 dX2_isPower_74 ?_
      refine m_iload_n dX2_isPower_77 rfl ?_
      have hc1 := hcl xs[i]
      have hc2 := pieceF_cnt xs n i (by omega) xs[i]
      have hc3 := Nat.div_le_self (xs.count xs[i]) n
      have hpli := pieceF_len (xs := xs) (n := n) (i := i) hr.2.2.2 (by omega)
      first | refine m_idivN dX2_isPower_78 (by omega) (by omega) (by omega) ?_ | refine m_idiv dX2_isPower_78 (by decide) ?_
      first | refine m_icmp_geN 92 dX2_isPower_79 (by decide) (by omega) (by omega) (fun c79 => ?_) (fun c79 => ?_) | refine m_icmp_ge 92 dX2_isPower_79 (by decide) (fun c79 => ?_) (fun c79 => ?_)
      · first | refine m_iincN 1 dX2_isPower_92 (by decide) rfl rfl ?_ | refine m_iinc dX2_isPower_92 rfl rfl ?_
        refine m_goto 47 dX2_isPower_95 (by decide) ?_
        refine ih (by omega) _ _ ?_ g3
        rw [pieceF_s (by omega), piece1, if_neg (by omega)]
        exact g1
      · refine m_aload_n dX2_isPower_82 rfl ?_
        refine m_get fl_X2_18 (by decide) rfl rfl dX2_isPower_83 ?_
        refine m_iload dX2_isPower_86 rfl ?_
        have hpl2 : (pieceF xs n i).length < 24 := by
          have q1 : (pieceF xs n i).length ≤ i := by
            have : ∀ t, t ≤ xs.length → (pieceF xs n t).length ≤ t := by
              intro t
              induction t with
              | zero => intro _; simp [pieceF]
              | succ t iht =>
                intro ht
                rw [pieceF_s (by omega)]
                unfold piece1
                have := iht (by omega)
                split
                · simp; exact this
                · omega
            exact this i (by omega)
          omega
        refine m_callVI (s_X9_push (j := 6) (by decide) g1 (x := xs[i]) hb hpl2) cv_X2_60 dX2_isPower_88 (fun r88 d88 h88 => ?_)
        refine m_pop dX2_isPower_91 rfl ?_
        first | refine m_iincN 1 dX2_isPower_92 (by decide) rfl rfl ?_ | refine m_iinc dX2_isPower_92 rfl rfl ?_
        refine m_goto 47 dX2_isPower_95 (by decide) ?_
        refine ih (by omega) _ _ ?_ (g3.tr (h88.2.2.mono (by simp)))
        rw [pieceF_s (by omega), piece1, if_pos (by omega)]
        exact h88.2.1
    )
  have loop1 : ∀ p, p ≤ k → (∀ q, q < p → xs.count q % n = 0) → ∀ d1, rowIs d1 6 [] → chg [10, 23, 11, 24] d d1 → mG W K cX2_isPower RX2 (dep + 4) d1 16 [some (.ref (xad W 50)), some (.ref (xad W (j + 4))), some (.int (nI n)), some (.int (nI p)), none] [] := x_up _ (fun p hp ih hq d1 g1 g3 => by
    have hl1 : letIs d1 k fb := h.fr g3 (by simp) (by simp)
    have hr1 : rowIs d1 j xs := hr.fr g3 (by simp; omega) (by simp; omega)
    have hc1 := hcl p
    refine m_iload_n dX2_isPower_16 rfl ?_
    refine m_aload_n dX2_isPower_17 rfl ?_
    refine m_get fl_X2_24 (by decide) rfl rfl dX2_isPower_18 ?_
    refine m_callVIp (s_X3_size hl1) cv_X2_68 dX2_isPower_21 ?_
    first | refine m_icmp_geN 45 dX2_isPower_24 (by decide) (by omega) (by omega) (fun c24 => ?_) (fun c24 => ?_) | refine m_icmp_ge 45 dX2_isPower_24 (by decide) (fun c24 => ?_) (fun c24 => ?_)
    · refine m_iconstN 0 dX2_isPower_45 (by decide) ?_
      refine m_istore_n dX2_isPower_46 (Nat.le_of_ble_eq_true rfl) rfl ?_
      exact loop2 (List.all_eq_true.mpr (fun q hq2 => by have := hq q (by have := List.mem_range.mp hq2; omega); simpa using this)) 0 (Nat.zero_le _) _ _ g1 g3
    · refine m_aload_n dX2_isPower_27 rfl ?_
      refine m_iload_n dX2_isPower_28 rfl ?_
      refine m_callVIp (s_X9_howMany hj hr1 (x := p) (by omega)) cv_X2_107 dX2_isPower_29 ?_
      refine m_iload_n dX2_isPower_32 rfl ?_
      first | refine m_iremN dX2_isPower_33 (by omega) (by omega) (by omega) ?_ | refine m_irem dX2_isPower_33 (by decide) ?_
      have hml := Nat.mod_lt (xs.count p) (show n > 0 by omega)
      first | refine m_if_eqN 39 dX2_isPower_34 (by decide) (by omega) (fun c34 => ?_) (fun c34 => ?_) | refine m_if_eq 39 dX2_isPower_34 (by decide) (fun c34 => ?_) (fun c34 => ?_)
      · first | refine m_iincN 1 dX2_isPower_39 (by decide) rfl rfl ?_ | refine m_iinc dX2_isPower_39 rfl rfl ?_
        refine m_goto 16 dX2_isPower_42 (by decide) ?_
        refine ih (by omega) (fun q hq2 => ?_) d1 g1 g3
        by_cases e : q = p
        · subst e; omega
        · exact hq q (by omega)
      · refine m_iconstN 0 dX2_isPower_37 (by decide) ?_
        exact m_iret (ty := .boolean) hR dX2_isPower_38 (⟨by unfold isPow cntOk; rw [if_neg (fun z => c34 (by have := List.all_eq_true.mp (Bool.and_eq_true _ _ ▸ z).1 p (List.mem_range.mpr (by omega)); simpa using this))]; rfl, g3⟩)
    )
  refine m_iload_n dX2_isPower_0 rfl ?_
  refine m_iconstN 1 dX2_isPower_1 (by decide) ?_
  first | refine m_icmp_geN 7 dX2_isPower_2 (by decide) (by omega) (by omega) (fun c2 => ?_) (fun c2 => by exfalso; omega) | refine m_icmp_ge 7 dX2_isPower_2 (by decide) (fun c2 => ?_) (fun c2 => by exfalso; omega)
  refine m_aload_n dX2_isPower_7 rfl ?_
  refine m_get fl_X2_18 (by decide) rfl rfl dX2_isPower_8 ?_
  refine m_callVVp (s_X9_wipe (j := 6) (by decide)) cv_X2_53 dX2_isPower_11 ?_
  refine m_iconstN 0 dX2_isPower_14 (by decide) ?_
  refine m_istore_n dX2_isPower_15 (Nat.le_of_ble_eq_true rfl) rfl ?_
  exact loop1 0 (Nat.zero_le _) (fun q hq => absurd hq (Nat.not_lt_zero q)) _ (rowIs.nil (se_s _ _ _ _)) (chg.rf.se (by simp))
theorem s_X2_greatestRoot (h : letIs d k fb) (hj : j < 13) (hj6 : j ≠ 6) (hj7 : j ≠ 7) (hr : rowIs d j xs) : mSpecI l W mX2_greatestRoot (dep + 5) [.ref (xad W 50), .ref (xad W (j + 4))] d (fun r d' => r = nI (rootF (isPow k fb xs) xs.length) ∧ chg [10, 23, 11, 24] d d') := by
  have h24 := hr.1
  refine m_spec RX2 [some (.ref (xad W 50)), some (.ref (xad W (j + 4))), none] rfl (by decide +kernel) rfl rfl (fun K hR => ?_)
  have loop : ∀ (n : Nat) (d1 : xD), n ≤ 24 → chg [10, 23, 11, 24] d d1 → rootF (isPow k fb xs) xs.length = rootF (isPow k fb xs) n → mG W K cX2_greatestRoot RX2 (dep + 5) d1 5 [some (.ref (xad W 50)), some (.ref (xad W (j + 4))), some (.int (nI n))] [] := by
    intro n
    induction n with
    | zero =>
      intro d1 hn g1 g2
      refine m_iload_n dX2_greatestRoot_5 rfl ?_
      first | refine m_if_leN 26 dX2_greatestRoot_6 (by decide) (by omega) (fun c6 => ?_) (fun c6 => by exfalso; exact c6 rfl) | refine m_if_le 26 dX2_greatestRoot_6 (by decide) (fun c6 => ?_) (fun c6 => by exfalso; exact c6 rfl)
      refine m_iconstN 0 dX2_greatestRoot_26 (by decide) ?_
      exact m_iret (ty := .int) hR dX2_greatestRoot_27 (⟨by rw [g2]; rfl, g1⟩)
    | succ n ih =>
      intro d1 hn g1 g2
      have hl1 : letIs d1 k fb := h.fr g1 (by simp) (by simp)
      have hr1 : rowIs d1 j xs := hr.fr g1 (by simp; omega) (by simp; omega)
      refine m_iload_n dX2_greatestRoot_5 rfl ?_
      first | refine m_if_leN 26 dX2_greatestRoot_6 (by decide) (by omega) (fun c6 => by exfalso; omega) (fun c6 => ?_) | refine m_if_le 26 dX2_greatestRoot_6 (by decide) (fun c6 => by exfalso; omega) (fun c6 => ?_)
      refine m_aload_n dX2_greatestRoot_9 rfl ?_
      refine m_aload_n dX2_greatestRoot_10 rfl ?_
      refine m_iload_n dX2_greatestRoot_11 rfl ?_
      refine m_callVI (s_X2_isPower hl1 hj hj6 hj7 hr1 (n := n + 1) (by omega) hn) cv_X2_104 dX2_greatestRoot_12 (fun r12 d12 h12 => ?_)
      obtain ⟨rfl, h12⟩ := h12
      refine m_if_eq 20 dX2_greatestRoot_15 (by decide) (fun c15 => ?_) (fun c15 => ?_)
      · first | refine m_iincM dX2_greatestRoot_20 (by decide) rfl rfl ?_ | refine m_iinc dX2_greatestRoot_20 rfl rfl ?_
        refine m_goto 5 dX2_greatestRoot_23 (by decide) ?_
        refine ih _ (by omega) (g1.tr h12) ?_
        rw [g2]
        show (if _ then _ else _) = _
        rw [if_neg (by cases hf : isPow k fb xs (n + 1) <;> simp_all)]
      · refine m_iload_n dX2_greatestRoot_18 rfl ?_
        exact m_iret (ty := .int) hR dX2_greatestRoot_19 (⟨by rw [g2]; unfold rootF; rw [if_pos (by cases hf : isPow k fb xs (n + 1) <;> simp_all)], g1.tr h12⟩)
  refine m_aload_n dX2_greatestRoot_0 rfl ?_
  refine m_callVIp (s_X9_length hj hr) cv_X2_34 dX2_greatestRoot_1 ?_
  refine m_istore_n dX2_greatestRoot_4 (Nat.le_of_ble_eq_true rfl) rfl ?_
  exact loop _ d h24 chg.rf rfl
end HED
