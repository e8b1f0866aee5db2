/-! the law's model: marks -/
/-- the first letter of the unmarked ones that is l, if those before it are free with l -/
def fo (fb : Nat → Nat) (l : Nat) (off : Nat → Bool) : List Nat → Nat → Option Nat
  | [], _ => none
  | x :: xs, i => if off i = true then fo fb l off xs (i + 1) else if x = l then some i else if (fb x).testBit l = true then fo fb l off xs (i + 1) else none
theorem fo_s (fb : Nat → Nat) (l : Nat) (off : Nat → Bool) (x : Nat) (xs : List Nat) (i : Nat) : fo fb l off (x :: xs) i = if off i = true then fo fb l off xs (i + 1) else if x = l then some i else if (fb x).testBit l = true then fo fb l off xs (i + 1) else none := rfl
/-- the marks -/
def offIs (d : xD) (n : Nat) (off : Nat → Bool) : Prop := ∀ i, i < n → d.1 249 i = (if off i = true then 1 else 0)
section MOD
variable {l : Launch} {W : xW} {dep : Nat} {d : xD} {bs : List Nat} {σ : St} {x y : Int32} {n k : Nat} {fb : Nat → Nat}
theorem s_X12_putAllOn (hn : n ≤ 48) : mSpecV l W mX12_putAllOn dep [.ref (xad W 240), .int (nI n)] d (fun d' => offIs d' n (fun _ => false) ∧ chg [249] d d') := by
  have hZ : isZ W 249 48 := ⟨by decide, by decide, fun _ => rfl⟩
  refine m_spec RX12 [some (.ref (xad W 240)), some (.int (nI n)), none] rfl (by decide +kernel) rfl rfl (fun K hR => ?_)
  have loop : ∀ i, i ≤ n → ∀ d1, (∀ q, q < i → d1.1 249 q = 0) → chg [249] d d1 → mG W K cX12_putAllOn RX12 dep d1 2 [some (.ref (xad W 240)), some (.int (nI n)), some (.int (nI i))] [] := x_up _ (fun i hi ih d1 g1 g2 => by
    refine m_iload_n dX12_putAllOn_2 rfl ?_
    refine m_iload_n dX12_putAllOn_3 rfl ?_
    first | refine m_icmp_geN 20 dX12_putAllOn_4 (by decide) (by omega) (by omega) (fun c4 => ?_) (fun c4 => ?_) | refine m_icmp_ge 20 dX12_putAllOn_4 (by decide) (fun c4 => ?_) (fun c4 => ?_)
    · exact m_vret hR dX12_putAllOn_20 (⟨fun q hq => by rw [g1 q (by omega)]; rfl, g2⟩)
    · refine m_aload_n dX12_putAllOn_7 rfl ?_
      refine m_get fl_X12_38 (by decide) rfl rfl dX12_putAllOn_8 ?_
      refine m_iload_n dX12_putAllOn_11 rfl ?_
      refine m_iconstN 0 dX12_putAllOn_12 (by decide) ?_
      refine m_zast hZ (by omega) (by decide +kernel) dX12_putAllOn_13 ?_
      first | refine m_iincN 1 dX12_putAllOn_14 (by decide) rfl rfl ?_ | refine m_iinc dX12_putAllOn_14 rfl rfl ?_
      refine m_goto 2 dX12_putAllOn_17 (by decide) ?_
      refine ih (by omega) _ (fun q hq => ?_) (g2.se (by simp))
      by_cases e : q = i
      · subst e; exact se_s _ _ _ _
      · exact se_e2 (g1 q (by omega)) e
    )
  refine m_iconstN 0 dX12_putAllOn_0 (by decide) ?_
  refine m_istore_n dX12_putAllOn_1 (Nat.le_of_ble_eq_true rfl) rfl ?_
  exact loop 0 (Nat.zero_le _) d (fun q hq => absurd hq (Nat.not_lt_zero q)) chg.rf
theorem s_X12_firstOf {o : Nat} {xs : List Nat} {off : Nat → Bool} {lt : Nat} (ho : isI W o 48) (hl : moLet d k fb) (hx : ∀ x ∈ xs, x < 6) (h48 : xs.length ≤ 48) (ha : arrB d o xs) (hoff : offIs d xs.length off) (hlt : lt < 6) : mSpecI l W mX12_firstOf (dep + 1) [.ref (xad W 240), .ref (xad W o), .int (nI xs.length), .int (nI lt)] d (fun r d' => r = optI (fo fb lt off xs 0) ∧ d' = d) := by
  have hZ : isZ W 249 48 := ⟨by decide, by decide, fun _ => rfl⟩
  refine m_spec RX12 [some (.ref (xad W 240)), some (.ref (xad W o)), some (.int (nI xs.length)), some (.int (nI lt)), none] rfl (by decide +kernel) rfl rfl (fun K hR => ?_)
  have loop : ∀ i, i ≤ xs.length → fo fb lt off xs 0 = fo fb lt off (xs.drop i) i → mG W K cX12_firstOf RX12 (dep + 1) d 3 [some (.ref (xad W 240)), some (.ref (xad W o)), some (.int (nI xs.length)), some (.int (nI lt)), some (.int (nI i))] [] := x_up _ (fun i hi ih g => by
    by_cases hil : i < xs.length
    · have hxi := hx _ (List.getElem_mem hil)
      have hg : fo fb lt off xs 0 = if off i = true then fo fb lt off (xs.drop (i + 1)) (i + 1) else if xs[i] = lt then some i else if (fb xs[i]).testBit lt = true then fo fb lt off (xs.drop (i + 1)) (i + 1) else none := by
        rw [g, List.drop_eq_getElem_cons hil, fo_s]
      have hai : d.1 o i = nI xs[i] := by rw [ha i hil, getD_at hil]
      refine m_iload dX12_firstOf_3 rfl ?_
      refine m_iload_n dX12_firstOf_5 rfl ?_
      first | refine m_icmp_geN 50 dX12_firstOf_6 (by decide) (by omega) (by omega) (fun c6 => by exfalso; omega) (fun c6 => ?_) | refine m_icmp_ge 50 dX12_firstOf_6 (by decide) (fun c6 => by exfalso; omega) (fun c6 => ?_)
      refine m_aload_n dX12_firstOf_9 rfl ?_
      refine m_get fl_X12_38 (by decide) rfl rfl dX12_firstOf_10 ?_
      refine m_iload dX12_firstOf_13 rfl ?_
      refine m_zald hZ (by omega) dX12_firstOf_15 ?_
      refine m_eqi (hoff i hil) ?_
      refine m_if_ne 44 dX12_firstOf_16 (by decide) (fun c16 => ?_) (fun c16 => ?_)
      · first | refine m_iincN 1 dX12_firstOf_44 (by decide) rfl rfl ?_ | refine m_iinc dX12_firstOf_44 rfl rfl ?_
        refine m_goto 3 dX12_firstOf_47 (by decide) ?_
        exact ih (by omega) (by rw [hg, if_pos (Decidable.byContradiction (fun z => c16 (by rw [if_neg z])))])
      · refine m_aload_n dX12_firstOf_19 rfl ?_
        refine m_iload dX12_firstOf_20 rfl ?_
        refine m_iald ho (by omega) dX12_firstOf_22 ?_
        refine m_eqi (hai) ?_
        refine m_iload_n dX12_firstOf_23 rfl ?_
        first | refine m_icmp_neN 30 dX12_firstOf_24 (by decide) (by omega) (by omega) (fun c24 => ?_) (fun c24 => ?_) | refine m_icmp_ne 30 dX12_firstOf_24 (by decide) (fun c24 => ?_) (fun c24 => ?_)
        · refine m_aload_n dX12_firstOf_30 rfl ?_
          refine m_aload_n dX12_firstOf_31 rfl ?_
          refine m_iload dX12_firstOf_32 rfl ?_
          refine m_iald ho (by omega) dX12_firstOf_34 ?_
          refine m_eqi (hai) ?_
          refine m_iload_n dX12_firstOf_35 rfl ?_
          refine m_callVIp (s_X12_areFree hl hxi hlt) cv_X12_168 dX12_firstOf_36 ?_
          refine m_if_ne 44 dX12_firstOf_39 (by decide) (fun c39 => ?_) (fun c39 => ?_)
          · first | refine m_iincN 1 dX12_firstOf_44 (by decide) rfl rfl ?_ | refine m_iinc dX12_firstOf_44 rfl rfl ?_
            refine m_goto 3 dX12_firstOf_47 (by decide) ?_
            have hno : ¬ off i = true := fun z => c16 (by rw [if_pos z]; decide)
            exact ih (by omega) (by rw [hg, if_neg hno, if_neg (by omega), if_pos (Decidable.byContradiction (fun z => c39 (by rw [if_neg z])))])
          · refine m_iconst (v := -1) dX12_firstOf_42 (by decide) ?_
            have hno : ¬ off i = true := fun z => c16 (by rw [if_pos z]; decide)
            have hnf : ¬ (fb xs[i]).testBit lt = true := fun z => c39 (by rw [if_pos z]; decide)
            exact m_iret (ty := .int) hR dX12_firstOf_43 (⟨by rw [hg, if_neg hno, if_neg (by omega), if_neg hnf]; rfl, rfl⟩)
        · refine m_iload dX12_firstOf_27 rfl ?_
          have hno : ¬ off i = true := fun z => c16 (by rw [if_pos z]; decide)
          exact m_iret (ty := .int) hR dX12_firstOf_29 (⟨by rw [hg, if_neg hno, if_pos (by omega)]; rfl, rfl⟩)
    · have e6 : i = xs.length := by omega
      refine m_iload dX12_firstOf_3 rfl ?_
      refine m_iload_n dX12_firstOf_5 rfl ?_
      first | refine m_icmp_geN 50 dX12_firstOf_6 (by decide) (by omega) (by omega) (fun c6 => ?_) (fun c6 => by exfalso; omega) | refine m_icmp_ge 50 dX12_firstOf_6 (by decide) (fun c6 => ?_) (fun c6 => by exfalso; omega)
      refine m_iconst (v := -1) dX12_firstOf_50 (by decide) ?_
      exact m_iret (ty := .int) hR dX12_firstOf_51 (⟨by rw [g, e6, List.drop_length]; rfl, rfl⟩)
    )
  refine m_iconstN 0 dX12_firstOf_0 (by decide) ?_
  refine m_istore dX12_firstOf_1 (Nat.le_of_ble_eq_true rfl) rfl ?_
  exact loop 0 (Nat.zero_le _) rfl
end MOD
