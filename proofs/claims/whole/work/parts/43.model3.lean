/-! the law's model: least rows, letter, looks, free, layers -/
theorem arrB.fr {S : List Nat} {d d' : xD} {o : Nat} {xs : List Nat} (h : arrB d o xs) (hc : chg S d d') (ho : o ∉ S) : arrB d' o xs := fun i hi => by rw [(hc o ho).1]; exact h i hi
theorem offIs.fr {S : List Nat} {d d' : xD} {n : Nat} {off : Nat → Bool} (h : offIs d n off) (hc : chg S d d') (ho : 249 ∉ S) : offIs d' n off := fun i hi => by rw [(hc 249 ho).1]; exact h i hi
theorem nI_m1 {n : Nat} (h : n < 2 ^ 31) : ¬ nI n = -1 := fun z => by have := nI_pos h; rw [z] at this; exact this (by decide)
theorem arrB.snoc {d : xD} {o x : Nat} {ms : List Nat} (h : arrB d o ms) : arrB (seI d o ms.length (nI x)) o (ms ++ [x]) := fun i hi => by
  by_cases e : i = ms.length
  · subst e
    rw [se_s, List.getD_eq_getElem?_getD, List.getElem?_append_right (Nat.le_refl _), Nat.sub_self]
    rfl
  · have hi2 : i < ms.length := by simp at hi; omega
    rw [se_n _ _ e, h i hi2, List.getD_eq_getElem?_getD, List.getD_eq_getElem?_getD, List.getElem?_append_left hi2]
theorem arrB.nil {d : xD} {o : Nat} : arrB d o [] := fun i hi => absurd hi (Nat.not_lt_zero i)
section MOD
variable {l : Launch} {W : xW} {dep : Nat} {d : xD} {bs : List Nat} {σ : St} {x y z w : Int32} {n n2 k : Nat} {fb : Nat → Nat}
theorem s_X12_makeLeast {o : Nat} {xs : List Nat} {off : Nat → Bool} (ho : isI W o 48) (ho8 : o ≠ 248 ∧ o ≠ 249) (hl : moLet d k fb) (hx : ∀ x ∈ xs, x < k) (h48 : xs.length ≤ 48) (ha : arrB d o xs) (hoff : offIs d xs.length off) : mSpecI l W mX12_makeLeast (dep + 2) [.ref (xad W 240), .ref (xad W o), .int (nI xs.length)] d (fun r d' => r = nI (live off xs 0).length ∧ arrB d' 248 (leastR (bw k fb) (live off xs 0)) ∧ chg [248, 249] d d') := by
  have hk := hl.2.2.2.1
  have hx6 : ∀ x ∈ xs, x < 6 := fun x h => by have := hx x h; omega
  have hZ : isZ W 249 48 := ⟨by decide, by decide, fun _ => rfl⟩
  have hbo : ∀ off', bOk (bw k fb) (live off' xs 0) := fun off' => (bw_ok hl.2.2 hx).sub (fun y hy => live_mem xs 0 y hy)
  refine m_spec RX12 [some (.ref (xad W 240)), some (.ref (xad W o)), some (.int (nI xs.length)), none, none, none, none] rfl (by decide +kernel) rfl rfl (fun K hR => ?_)
  have outer : ∀ n, ∀ off1 ms d1 o5 o6, (live off1 xs 0).length = n → ms.length + n = (live off xs 0).length → ms ++ least (bw k fb) n (live off1 xs 0) = leastR (bw k fb) (live off xs 0) → offIs d1 xs.length off1 → arrB d1 248 ms → chg [248, 249] d d1 → mG W K cX12_makeLeast RX12 (dep + 2) d1 5 [some (.ref (xad W 240)), some (.ref (xad W o)), some (.int (nI xs.length)), some (.int (nI ms.length)), some (.int (nI 1)), o5, o6] [] := by
    intro n
    induction n using Nat.strongRecOn with
    | _ n ihn =>
    intro off1 ms d1 o5 o6 hlen hms heq h1 h2 h3
    have hl1 : moLet d1 k fb := hl.fr h3 (by simp) (by simp)
    have ha1 : arrB d1 o xs := ha.fr h3 (by simp; omega)
    have hll := live_len (off := off) xs 0
    have inner : ∀ t, t ≤ 6 → ∀ o6, (∀ q, q < t → front (bw k fb) (live off1 xs 0) q = none) → mG W K cX12_makeLeast RX12 (dep + 2) d1 16 [some (.ref (xad W 240)), some (.ref (xad W o)), some (.int (nI xs.length)), some (.int (nI ms.length)), some (.int (nI 0)), some (.int (nI t)), o6] [] := x_up _ (fun t ht ih o6 g => by
      by_cases ht6 : t < 6
      · rcases fo_bw (off := off1) hl.2.2 ht6 hx with ⟨f1, f2⟩ | ⟨m, j, f1, f2, f3, f4, f5⟩
        · skip
          refine m_iload dX12_makeLeast_16 rfl ?_
          refine m_bipushN 6 dX12_makeLeast_18 (by decide) ?_
          first | refine m_icmp_geN 72 dX12_makeLeast_20 (by decide) (by omega) (by omega) (fun c20 => by exfalso; omega) (fun c20 => ?_) | refine m_icmp_ge 72 dX12_makeLeast_20 (by decide) (fun c20 => by exfalso; omega) (fun c20 => ?_)
          refine m_iload dX12_makeLeast_23 rfl ?_
          first | refine m_if_neN 72 dX12_makeLeast_25 (by decide) (by omega) (fun c25 => by exfalso; exact absurd rfl c25) (fun c25 => ?_) | refine m_if_ne 72 dX12_makeLeast_25 (by decide) (fun c25 => by exfalso; exact absurd rfl c25) (fun c25 => ?_)
          refine m_aload_n dX12_makeLeast_28 rfl ?_
          refine m_aload_n dX12_makeLeast_29 rfl ?_
          refine m_iload_n dX12_makeLeast_30 rfl ?_
          refine m_iload dX12_makeLeast_31 rfl ?_
          refine m_callVIp (s_X12_firstOf ho hl1 hx6 h48 ha1 h1 ht6) cv_X12_175 dX12_makeLeast_33 ?_
          refine m_eqi ((by rw [f1]; rfl : _ = (-1 : Int32))) ?_
          refine m_istore dX12_makeLeast_36 (Nat.le_of_ble_eq_true rfl) rfl ?_
          refine m_iload dX12_makeLeast_38 rfl ?_
          refine m_iconst (v := -1) dX12_makeLeast_40 (by decide) ?_
          refine m_icmp_eq 66 dX12_makeLeast_41 (by decide) (fun c41 => ?_) (fun c41 => by exfalso; exact c41 rfl)
          first | refine m_iincN 1 dX12_makeLeast_66 (by decide) rfl rfl ?_ | refine m_iinc dX12_makeLeast_66 rfl rfl ?_
          refine m_goto 16 dX12_makeLeast_69 (by decide) ?_
          refine ih (by omega) _ (fun q hq => ?_)
          by_cases e : q = t
          · subst e; exact f2
          · exact g q (by omega)
        · have hj := front_lt f4
          have hms2 : ms.length < 48 := by omega
          have hnew : ∀ o5' o6', mG W K cX12_makeLeast RX12 (dep + 2) (seI (seI d1 249 m (nI 1)) 248 ms.length (nI t)) 5 [some (.ref (xad W 240)), some (.ref (xad W o)), some (.int (nI xs.length)), some (.int (nI (ms.length + 1))), some (.int (nI 1)), o5', o6'] [] := fun o5' o6' => by
            have hln : (live (setOff off1 m) xs 0).length = n - 1 := by rw [f5, List.length_eraseIdx_of_lt hj]; omega
            have := ihn (n - 1) (by omega) (setOff off1 m) (ms ++ [t]) (seI (seI d1 249 m (nI 1)) 248 ms.length (nI t)) o5' o6' hln (by rw [List.length_append]; show ms.length + 1 + (n - 1) = _; omega) (by
              rw [← heq, show n = (n - 1) + 1 by omega]
              conv => rhs; unfold least
              rw [leastL_of ht6 f4 g]
              simp only [f4, Option.getD_some, ← f5]
              rw [List.append_assoc]; rfl) (h1.set.fr (chg.rf.se (o := 248) (S := [248]) (by simp)) (by simp)) (h2.fr (chg.rf.se (S := [249]) (by simp)) (by simp) |>.snoc) ((h3.se (by simp)).se (by simp))
            rw [List.length_append] at this
            exact this
          refine m_iload dX12_makeLeast_16 rfl ?_
          refine m_bipushN 6 dX12_makeLeast_18 (by decide) ?_
          first | refine m_icmp_geN 72 dX12_makeLeast_20 (by decide) (by omega) (by omega) (fun c20 => by exfalso; omega) (fun c20 => ?_) | refine m_icmp_ge 72 dX12_makeLeast_20 (by decide) (fun c20 => by exfalso; omega) (fun c20 => ?_)
          refine m_iload dX12_makeLeast_23 rfl ?_
          first | refine m_if_neN 72 dX12_makeLeast_25 (by decide) (by omega) (fun c25 => by exfalso; exact absurd rfl c25) (fun c25 => ?_) | refine m_if_ne 72 dX12_makeLeast_25 (by decide) (fun c25 => by exfalso; exact absurd rfl c25) (fun c25 => ?_)
          refine m_aload_n dX12_makeLeast_28 rfl ?_
          refine m_aload_n dX12_makeLeast_29 rfl ?_
          refine m_iload_n dX12_makeLeast_30 rfl ?_
          refine m_iload dX12_makeLeast_31 rfl ?_
          refine m_callVIp (s_X12_firstOf ho hl1 hx6 h48 ha1 h1 ht6) cv_X12_175 dX12_makeLeast_33 ?_
          refine m_eqi ((by rw [f1]; rfl : _ = nI m)) ?_
          refine m_istore dX12_makeLeast_36 (Nat.le_of_ble_eq_true rfl) rfl ?_
          refine m_iload dX12_makeLeast_38 rfl ?_
          refine m_iconst (v := -1) dX12_makeLeast_40 (by decide) ?_
          refine m_icmp_eq 66 dX12_makeLeast_41 (by decide) (fun c41 => by exfalso; exact absurd c41 (nI_m1 (by omega))) (fun c41 => ?_)
          refine m_aload_n dX12_makeLeast_44 rfl ?_
          refine m_get fl_X12_38 (by decide) rfl rfl dX12_makeLeast_45 ?_
          refine m_iload dX12_makeLeast_48 rfl ?_
          refine m_iconstN 1 dX12_makeLeast_50 (by decide) ?_
          refine m_zast hZ (by omega) (by decide +kernel) dX12_makeLeast_51 ?_
          refine m_aload_n dX12_makeLeast_52 rfl ?_
          refine m_get fl_X12_35 (by decide) rfl rfl dX12_makeLeast_53 ?_
          refine m_iload_n dX12_makeLeast_56 rfl ?_
          refine m_iload dX12_makeLeast_57 rfl ?_
          refine m_iast (by first | exact ⟨by decide, by decide, fun _ => rfl⟩ | exact isI_arr _ (by omega) | exact isI_mv _ (by omega) | exact isI_ne _ (by omega)) (by omega) dX12_makeLeast_59 ?_
          first | refine m_iincN 1 dX12_makeLeast_60 (by decide) rfl rfl ?_ | refine m_iinc dX12_makeLeast_60 rfl rfl ?_
          refine m_iconstN 1 dX12_makeLeast_63 (by decide) ?_
          refine m_istore dX12_makeLeast_64 (Nat.le_of_ble_eq_true rfl) rfl ?_
          first | refine m_iincN 1 dX12_makeLeast_66 (by decide) rfl rfl ?_ | refine m_iinc dX12_makeLeast_66 rfl rfl ?_
          refine m_goto 16 dX12_makeLeast_69 (by decide) ?_
          refine m_iload dX12_makeLeast_16 rfl ?_
          refine m_bipushN 6 dX12_makeLeast_18 (by decide) ?_
          first | refine m_icmp_geN 72 dX12_makeLeast_20 (by decide) (by omega) (by omega) (fun c20 => ?_) (fun c20 => ?_) | refine m_icmp_ge 72 dX12_makeLeast_20 (by decide) (fun c20 => ?_) (fun c20 => ?_)
          · refine m_goto 5 dX12_makeLeast_72 (by decide) ?_
            exact hnew _ _
          · refine m_iload dX12_makeLeast_23 rfl ?_
            first | refine m_if_neN 72 dX12_makeLeast_25 (by decide) (by omega) (fun c25 => ?_) (fun c25 => by exfalso; exact c25 (by decide)) | refine m_if_ne 72 dX12_makeLeast_25 (by decide) (fun c25 => ?_) (fun c25 => by exfalso; exact c25 (by decide))
            refine m_goto 5 dX12_makeLeast_72 (by decide) ?_
            exact hnew _ _
      · have ht2 : t = 6 := by omega
        subst ht2
        have hn0 : live off1 xs 0 = [] := Classical.byContradiction (fun z => by
          obtain ⟨l, hl2⟩ := leastL_ne (hbo off1) z
          obtain ⟨h6, i, hi⟩ := leastL_some hl2
          rw [g l h6] at hi; cases hi)
        rw [hn0] at hlen heq
        refine m_iload dX12_makeLeast_16 rfl ?_
        refine m_bipushN 6 dX12_makeLeast_18 (by decide) ?_
        first | refine m_icmp_geN 72 dX12_makeLeast_20 (by decide) (by omega) (by omega) (fun c20 => ?_) (fun c20 => by exfalso; omega) | refine m_icmp_ge 72 dX12_makeLeast_20 (by decide) (fun c20 => ?_) (fun c20 => by exfalso; omega)
        refine m_goto 5 dX12_makeLeast_72 (by decide) ?_
        refine m_iload dX12_makeLeast_5 rfl ?_
        first | refine m_if_eqN 75 dX12_makeLeast_7 (by decide) (by omega) (fun c7 => ?_) (fun c7 => by exfalso; exact c7 rfl) | refine m_if_eq 75 dX12_makeLeast_7 (by decide) (fun c7 => ?_) (fun c7 => by exfalso; exact c7 rfl)
        refine m_iload_n dX12_makeLeast_75 rfl ?_
        exact m_iret (ty := .int) hR dX12_makeLeast_76 (⟨by rw [← hms, ← hlen]; rfl, by rw [← heq, ← hlen]; show arrB _ _ (ms ++ []); rw [List.append_nil]; exact h2, h3⟩)
      )
    refine m_iload dX12_makeLeast_5 rfl ?_
    first | refine m_if_eqN 75 dX12_makeLeast_7 (by decide) (by omega) (fun c7 => by exfalso; exact absurd c7 (by decide)) (fun c7 => ?_) | refine m_if_eq 75 dX12_makeLeast_7 (by decide) (fun c7 => by exfalso; exact absurd c7 (by decide)) (fun c7 => ?_)
    refine m_iconstN 0 dX12_makeLeast_10 (by decide) ?_
    refine m_istore dX12_makeLeast_11 (Nat.le_of_ble_eq_true rfl) rfl ?_
    refine m_iconstN 0 dX12_makeLeast_13 (by decide) ?_
    refine m_istore dX12_makeLeast_14 (Nat.le_of_ble_eq_true rfl) rfl ?_
    exact inner 0 (by decide) _ (fun q hq => absurd hq (Nat.not_lt_zero q))
  refine m_iconstN 0 dX12_makeLeast_0 (by decide) ?_
  refine m_istore_n dX12_makeLeast_1 (Nat.le_of_ble_eq_true rfl) rfl ?_
  refine m_iconstN 1 dX12_makeLeast_2 (by decide) ?_
  refine m_istore dX12_makeLeast_3 (Nat.le_of_ble_eq_true rfl) rfl ?_
  exact outer _ off [] d none none rfl (Nat.zero_add _) rfl hoff arrB.nil chg.rf
theorem s_X12_makeLeastOf {o : Nat} {xs : List Nat} (ho : isI W o 48) (ho8 : o ≠ 248 ∧ o ≠ 249) (hl : moLet d k fb) (hx : ∀ x ∈ xs, x < k) (h48 : xs.length ≤ 48) (ha : arrB d o xs) : mSpecI l W mX12_makeLeastOf (dep + 3) [.ref (xad W 240), .ref (xad W o), .int (nI xs.length)] d (fun r d' => r = nI xs.length ∧ arrB d' 248 (leastR (bw k fb) xs) ∧ chg [248, 249] d d') := by
  refine m_spec RX12 [some (.ref (xad W 240)), some (.ref (xad W o)), some (.int (nI xs.length))] rfl (by decide +kernel) rfl rfl (fun K hR => ?_)
  refine m_aload_n dX12_makeLeastOf_0 rfl ?_
  refine m_iload_n dX12_makeLeastOf_1 rfl ?_
  refine m_callVV (s_X12_putAllOn h48) cv_X12_179 dX12_makeLeastOf_2 (fun d2 h2 => ?_)
  refine m_aload_n dX12_makeLeastOf_5 rfl ?_
  refine m_aload_n dX12_makeLeastOf_6 rfl ?_
  refine m_iload_n dX12_makeLeastOf_7 rfl ?_
  refine m_callVI (s_X12_makeLeast ho ho8 (hl.fr h2.2 (by simp) (by simp)) hx h48 (ha.fr h2.2 (by simp; omega)) h2.1) cv_X12_182 dX12_makeLeastOf_8 (fun r8 d8 h8 => ?_)
  rw [live_all xs 0 (fun _ _ _ => rfl)] at h8
  exact m_iret (ty := .int) hR dX12_makeLeastOf_11 (⟨h8.1, h8.2.1, (h2.2.mono (by simp)).tr h8.2.2⟩)
theorem s_X12_letterO (hx : hN x = none) : mSpecI l W mX12_letter (dep + 2) [.ref (xad W 240), .int x, .int y, .int z] d (fun r d' => r = -2 ∧ d' = d) := by
  refine m_spec RX12 [some (.ref (xad W 240)), some (.int x), some (.int y), some (.int z)] rfl (by decide +kernel) rfl rfl (fun K hR => ?_)
  refine m_iload_n dX12_letter_0 rfl ?_
  refine m_callSIp (s_X12_isHeapO hx) cs_X12_172 dX12_letter_1 ?_
  refine m_if_ne 10 dX12_letter_4 (by decide) (fun c4 => by exfalso; exact c4 rfl) (fun c4 => ?_)
  refine m_bipush (v := -2) dX12_letter_7 (by decide) ?_
  exact m_iret (ty := .int) hR dX12_letter_9 (⟨rfl, rfl⟩)
theorem s_X12_letterW (hx : hN x = some n) (h : y < 0 ∨ z < 0 ∨ nI 1 < z) : mSpecI l W mX12_letter (dep + 2) [.ref (xad W 240), .int x, .int y, .int z] d (fun r d' => r = -3 ∧ d' = d) := by
  refine m_spec RX12 [some (.ref (xad W 240)), some (.int x), some (.int y), some (.int z)] rfl (by decide +kernel) rfl rfl (fun K hR => ?_)
  by_cases hy : y < 0
  · skip
    refine m_iload_n dX12_letter_0 rfl ?_
    refine m_callSIp (s_X12_isHeap hx) cs_X12_172 dX12_letter_1 ?_
    refine m_if_ne 10 dX12_letter_4 (by decide) (fun c4 => ?_) (fun c4 => by exfalso; exact c4 (by decide))
    refine m_iload_n dX12_letter_10 rfl ?_
    refine m_if_lt 23 dX12_letter_11 (by decide) (fun c11 => ?_) (fun c11 => by exfalso; exact c11 hy)
    refine m_bipush (v := -3) dX12_letter_23 (by decide) ?_
    exact m_iret (ty := .int) hR dX12_letter_25 (⟨rfl, rfl⟩)
  · skip
    refine m_iload_n dX12_letter_0 rfl ?_
    refine m_callSIp (s_X12_isHeap hx) cs_X12_172 dX12_letter_1 ?_
    refine m_if_ne 10 dX12_letter_4 (by decide) (fun c4 => ?_) (fun c4 => by exfalso; exact c4 (by decide))
    refine m_iload_n dX12_letter_10 rfl ?_
    refine m_if_lt 23 dX12_letter_11 (by decide) (fun c11 => by exfalso; exact hy c11) (fun c11 => ?_)
    refine m_iload_n dX12_letter_14 rfl ?_
    refine m_iconstN 0 dX12_letter_15 (by decide) ?_
    refine m_iconstN 1 dX12_letter_16 (by decide) ?_
    refine m_callSIp (s_X12_inN (x := z) (a := nI 0) (b := nI 1) (h.resolve_left hy)) cs_X12_83 dX12_letter_17 ?_
    refine m_if_ne 26 dX12_letter_20 (by decide) (fun c20 => by exfalso; exact c20 rfl) (fun c20 => ?_)
    refine m_bipush (v := -3) dX12_letter_23 (by decide) ?_
    exact m_iret (ty := .int) hR dX12_letter_25 (⟨rfl, rfl⟩)
theorem s_X12_letter {m i : Nat} (hx : hN x = some n) (hi : i < 2 ^ 31) (hm : m ≤ 1) (hs : moSt d σ) : mSpecI l W mX12_letter (dep + 4) [.ref (xad W 240), .int x, .int (nI i), .int (nI m)] d (fun r d' => r = (if m = 0 then rowAt (σ.2.2 n) i else rowAt (leastR (bw σ.1 σ.2.1) (σ.2.2 n)) i) ∧ chg [246, 248, 249] d d') := by
  obtain ⟨hn, rfl⟩ := hN_some hx
  have h24 := (hs.2 n hn).2.1
  have hll := leastR_len (bw_ok hs.1.2.2 (hs.2 n hn).2.2.2)
  refine m_spec RX12 [some (.ref (xad W 240)), some (.int (nI n)), some (.int (nI i)), some (.int (nI m))] rfl (by decide +kernel) rfl rfl (fun K hR => ?_)
  refine m_iload_n dX12_letter_0 rfl ?_
  refine m_callSIp (s_X12_isHeap hx) cs_X12_172 dX12_letter_1 ?_
  refine m_if_ne 10 dX12_letter_4 (by decide) (fun c4 => ?_) (fun c4 => by exfalso; exact c4 (by decide))
  refine m_iload_n dX12_letter_10 rfl ?_
  refine m_if_ltN 23 dX12_letter_11 (by decide) (by omega) ?_
  refine m_iload_n dX12_letter_14 rfl ?_
  refine m_iconstN 0 dX12_letter_15 (by decide) ?_
  refine m_iconstN 1 dX12_letter_16 (by decide) ?_
  refine m_callSIp (s_X12_inY (x := nI m) (a := nI 0) (b := nI 1) ((nI_leI (by omega) (by omega)).mpr (by omega)) ((nI_leI (by omega) (by omega)).mpr (by omega))) cs_X12_83 dX12_letter_17 ?_
  refine m_if_ne 26 dX12_letter_20 (by decide) (fun c20 => ?_) (fun c20 => by exfalso; exact c20 (by decide))
  refine m_iload_n dX12_letter_26 rfl ?_
  refine m_aload_n dX12_letter_27 rfl ?_
  refine m_get fl_X12_17 (by decide) rfl rfl dX12_letter_28 ?_
  refine m_iload_n dX12_letter_31 rfl ?_
  refine m_iald (by first | exact ⟨by decide, by decide, fun _ => rfl⟩ | exact isI_arr _ (by omega) | exact isI_mv _ (by omega) | exact isI_ne _ (by omega)) (by omega) dX12_letter_32 ?_
  refine m_eqi ((hs.2 n hn).1) ?_
  first | refine m_icmp_ltN 38 dX12_letter_33 (by decide) (by omega) (by omega) (fun c33 => ?_) (fun c33 => ?_) | refine m_icmp_lt 38 dX12_letter_33 (by decide) (fun c33 => ?_) (fun c33 => ?_)
  · refine m_iload_n dX12_letter_38 rfl ?_
    first | refine m_if_neN 54 dX12_letter_39 (by decide) (by omega) (fun c39 => ?_) (fun c39 => ?_) | refine m_if_ne 54 dX12_letter_39 (by decide) (fun c39 => ?_) (fun c39 => ?_)
    · refine m_aload_n dX12_letter_54 rfl ?_
      refine m_iload_n dX12_letter_55 rfl ?_
      refine m_aload_n dX12_letter_56 rfl ?_
      refine m_get fl_X12_29 (by decide) rfl rfl dX12_letter_57 ?_
      refine m_callVV (s_X12_take (o := 246) ⟨by decide, by decide, fun _ => rfl⟩ (by decide) hn hs) cv_X12_186 dX12_letter_60 (fun d60 h60 => ?_)
      refine m_aload_n dX12_letter_63 rfl ?_
      refine m_aload_n dX12_letter_64 rfl ?_
      refine m_get fl_X12_29 (by decide) rfl rfl dX12_letter_65 ?_
      refine m_aload_n dX12_letter_68 rfl ?_
      refine m_get fl_X12_17 (by decide) rfl rfl dX12_letter_69 ?_
      refine m_iload_n dX12_letter_72 rfl ?_
      refine m_iald (by first | exact ⟨by decide, by decide, fun _ => rfl⟩ | exact isI_arr _ (by omega) | exact isI_mv _ (by omega) | exact isI_ne _ (by omega)) (by omega) dX12_letter_73 ?_
      refine m_eqi ((by rw [(h60.2 242 (by simp)).1]; exact (hs.2 n hn).1 : _ = nI (σ.2.2 n).length)) ?_
      refine m_callVI (s_X12_makeLeastOf (o := 246) ⟨by decide, by decide, fun _ => rfl⟩ (by decide) (hs.1.fr h60.2 (by simp) (by simp)) (hs.2 n hn).2.2.2 (by omega) h60.1) cv_X12_190 dX12_letter_74 (fun r74 d74 h74 => ?_)
      refine m_pop dX12_letter_77 rfl ?_
      refine m_aload_n dX12_letter_78 rfl ?_
      refine m_get fl_X12_35 (by decide) rfl rfl dX12_letter_79 ?_
      refine m_iload_n dX12_letter_82 rfl ?_
      refine m_iald (by first | exact ⟨by decide, by decide, fun _ => rfl⟩ | exact isI_arr _ (by omega) | exact isI_mv _ (by omega) | exact isI_ne _ (by omega)) (by omega) dX12_letter_83 ?_
      refine m_eqi (h74.2.1 i (by omega)) ?_
      exact m_iret (ty := .int) hR dX12_letter_84 (⟨by rw [if_neg (by omega)]; unfold rowAt; rw [dif_pos (by omega), getD_at (by omega)], (h60.2.mono (by simp)).tr (h74.2.2.mono (by simp))⟩)
    · refine m_aload_n dX12_letter_42 rfl ?_
      refine m_get fl_X12_20 (by decide) rfl rfl dX12_letter_43 ?_
      refine m_bipushN 24 dX12_letter_46 (by decide) ?_
      refine m_iload_n dX12_letter_48 rfl ?_
      first | refine m_imulN dX12_letter_49 ?_ | refine m_imul dX12_letter_49 ?_
      refine m_iload_n dX12_letter_50 rfl ?_
      first | refine m_iaddN dX12_letter_51 ?_ | refine m_iadd dX12_letter_51 ?_
      refine m_iald (by first | exact ⟨by decide, by decide, fun _ => rfl⟩ | exact isI_arr _ (by omega) | exact isI_mv _ (by omega) | exact isI_ne _ (by omega)) (by omega) dX12_letter_52 ?_
      refine m_eqi ((hs.2 n hn).2.2.1 i (by omega)) ?_
      exact m_iret (ty := .int) hR dX12_letter_53 (⟨by rw [if_pos (by omega)]; unfold rowAt; rw [dif_pos (by omega), getD_at (by omega)], chg.rf⟩)
  · refine m_iconst (v := -1) dX12_letter_36 (by decide) ?_
    exact m_iret (ty := .int) hR dX12_letter_37 (⟨by rw [show rowAt (σ.2.2 n) i = -1 from dif_neg (by omega), show rowAt (leastR (bw σ.1 σ.2.1) (σ.2.2 n)) i = -1 from dif_neg (by omega)]; split <;> rfl, chg.rf⟩)
end MOD
