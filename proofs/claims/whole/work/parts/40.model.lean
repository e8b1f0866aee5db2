/-! the law's model: letters, heaps, text -/
def moLet (d : xD) (k : Nat) (fb : Nat → Nat) : Prop := d.1 240 0 = nI k ∧ (∀ p, p < 6 → d.1 241 p = nI (fb p)) ∧ fbOk k fb
def moHp (d : xD) (k : Nat) (hs : Nat → List Nat) : Prop := ∀ j, j < 4 → d.1 242 j = nI (hs j).length ∧ (hs j).length ≤ 24 ∧ (∀ i, i < (hs j).length → d.1 243 (24 * j + i) = nI ((hs j).getD i 0)) ∧ ∀ x ∈ hs j, x < k
def moSt (d : xD) (σ : St) : Prop := moLet d σ.1 σ.2.1 ∧ moHp d σ.1 σ.2.2
def moTx (d : xD) (bs : List Nat) : Prop := d.1 240 4 = nI bs.length ∧ bs.length ≤ 160 ∧ ∀ i, i < bs.length → d.1 244 i = nI (bs.getD i 0) ∧ bs.getD i 0 < 256
theorem moLet.fr {S : List Nat} {d d' : xD} {k : Nat} {fb : Nat → Nat} (h : moLet d k fb) (hc : chg S d d') (h1 : 240 ∉ S) (h2 : 241 ∉ S) : moLet d' k fb := ⟨by rw [(hc _ h1).1]; exact h.1, fun p hp => by rw [(hc _ h2).1]; exact h.2.1 p hp, h.2.2⟩
theorem moHp.fr {S : List Nat} {d d' : xD} {k : Nat} {hs : Nat → List Nat} (h : moHp d k hs) (hc : chg S d d') (h1 : 242 ∉ S) (h2 : 243 ∉ S) : moHp d' k hs := by
  unfold moHp
  rw [(hc _ h1).1, (hc _ h2).1]
  exact h
section MOD
variable {l : Launch} {W : xW} {dep : Nat} {d : xD} {bs : List Nat} {σ : St} {x y : Int32} {n k : Nat} {fb : Nat → Nat}
theorem s_X12_inY {a b : Int32} (h1 : a ≤ x) (h2 : x ≤ b) : mSpecI l W mX12_in dep [.int x, .int a, .int b] d (fun r d' => r = 1 ∧ d' = d) := by
  refine m_spec RX12 [some (.int x), some (.int a), some (.int b)] rfl (by decide +kernel) rfl rfl (fun K hR => ?_)
  refine m_iload_n dX12_in_0 rfl ?_
  refine m_iload_n dX12_in_1 rfl ?_
  refine m_icmp_lt 14 dX12_in_2 (by decide) (fun c2 => by exfalso; exact absurd c2 (Int32.not_lt.mpr h1)) (fun c2 => ?_)
  refine m_iload_n dX12_in_5 rfl ?_
  refine m_iload_n dX12_in_6 rfl ?_
  refine m_icmp_gt 14 dX12_in_7 (by decide) (fun c7 => by exfalso; exact absurd c7 (Int32.not_lt.mpr h2)) (fun c7 => ?_)
  refine m_iconstN 1 dX12_in_10 (by decide) ?_
  refine m_goto 15 dX12_in_11 (by decide) ?_
  exact m_iret (ty := .boolean) hR dX12_in_15 (⟨rfl, rfl⟩)
theorem s_X12_inN {a b : Int32} (h : x < a ∨ b < x) : mSpecI l W mX12_in dep [.int x, .int a, .int b] d (fun r d' => r = 0 ∧ d' = d) := by
  refine m_spec RX12 [some (.int x), some (.int a), some (.int b)] rfl (by decide +kernel) rfl rfl (fun K hR => ?_)
  refine m_iload_n dX12_in_0 rfl ?_
  refine m_iload_n dX12_in_1 rfl ?_
  refine m_icmp_lt 14 dX12_in_2 (by decide) (fun c2 => ?_) (fun c2 => ?_)
  · refine m_iconstN 0 dX12_in_14 (by decide) ?_
    exact m_iret (ty := .boolean) hR dX12_in_15 (⟨rfl, rfl⟩)
  · refine m_iload_n dX12_in_5 rfl ?_
    refine m_iload_n dX12_in_6 rfl ?_
    refine m_icmp_gt 14 dX12_in_7 (by decide) (fun c7 => ?_) (fun c7 => by exfalso; exact h.elim c2 c7)
    refine m_iconstN 0 dX12_in_14 (by decide) ?_
    exact m_iret (ty := .boolean) hR dX12_in_15 (⟨rfl, rfl⟩)
theorem s_X12_isHeap (hx : hN x = some n) : mSpecI l W mX12_isHeap (dep + 1) [.int x] d (fun r d' => r = 1 ∧ d' = d) := by
  obtain ⟨hn, rfl⟩ := hN_some hx
  refine m_spec RX12 [some (.int (nI n))] rfl (by decide +kernel) rfl rfl (fun K hR => ?_)
  refine m_iload_n dX12_isHeap_0 rfl ?_
  refine m_iconstN 0 dX12_isHeap_1 (by decide) ?_
  refine m_iconstN 3 dX12_isHeap_2 (by decide) ?_
  refine m_callSIp (s_X12_inY (x := nI n) (a := nI 0) (b := nI 3) ((nI_leI (by omega) (by omega)).mpr (by omega)) ((nI_leI (by omega) (by omega)).mpr (by omega))) cs_X12_83 dX12_isHeap_3 ?_
  exact m_iret (ty := .boolean) hR dX12_isHeap_6 (⟨rfl, rfl⟩)
theorem s_X12_isHeapO (hx : hN x = none) : mSpecI l W mX12_isHeap (dep + 1) [.int x] d (fun r d' => r = 0 ∧ d' = d) := by
  have h3 : x < nI 0 ∨ nI 3 < x := by
    rcases hN_none hx with h | h
    · exact Or.inl h
    · refine Or.inr ?_
      have h4 := Int32.le_iff_toInt_le.mp h
      rw [Int32.lt_iff_toInt_lt]
      rw [nI_toInt (by decide)] at h4 ⊢
      omega
  refine m_spec RX12 [some (.int x)] rfl (by decide +kernel) rfl rfl (fun K hR => ?_)
  refine m_iload_n dX12_isHeap_0 rfl ?_
  refine m_iconstN 0 dX12_isHeap_1 (by decide) ?_
  refine m_iconstN 3 dX12_isHeap_2 (by decide) ?_
  refine m_callSIp (s_X12_inN h3) cs_X12_83 dX12_isHeap_3 ?_
  exact m_iret (ty := .boolean) hR dX12_isHeap_6 (⟨rfl, rfl⟩)
theorem s_X12_areFree (h : moLet d k fb) {p q : Nat} (hp : p < 6) (hq : q < 6) : mSpecI l W mX12_areFree dep [.ref (xad W 240), .int (nI p), .int (nI q)] d (fun r d' => r = (if (fb p).testBit q = true then 1 else 0) ∧ d' = d) := by
  have h64 := h.2.2.lt64 hp
  refine m_spec RX12 [some (.ref (xad W 240)), some (.int (nI p)), some (.int (nI q))] rfl (by decide +kernel) rfl rfl (fun K hR => ?_)
  refine m_aload_n dX12_areFree_0 rfl ?_
  refine m_get fl_X12_13 (by decide) rfl rfl dX12_areFree_1 ?_
  refine m_iload_n dX12_areFree_4 rfl ?_
  refine m_iald (by first | exact ⟨by decide, by decide, fun _ => rfl⟩ | exact isI_arr _ (by omega) | exact isI_mv _ (by omega) | exact isI_ne _ (by omega)) (by omega) dX12_areFree_5 ?_
  refine m_eqi (h.2.1 p hp) ?_
  refine m_iload_n dX12_areFree_6 rfl ?_
  refine m_ishr dX12_areFree_7 ?_
  refine m_iconstN 1 dX12_areFree_8 (by decide) ?_
  refine m_iand dX12_areFree_9 ?_
  refine m_eqi (nI_bit (by omega) (by omega)) ?_
  refine m_iconstN 1 dX12_areFree_10 (by decide) ?_
  have hb : ((fb p).testBit q).toNat < 2 := Bool.toNat_lt _
  first | refine m_icmp_neN 18 dX12_areFree_11 (by decide) (by omega) (by omega) (fun c11 => ?_) (fun c11 => ?_) | refine m_icmp_ne 18 dX12_areFree_11 (by decide) (fun c11 => ?_) (fun c11 => ?_)
  · refine m_iconstN 0 dX12_areFree_18 (by decide) ?_
    exact m_iret (ty := .boolean) hR dX12_areFree_19 (⟨by cases hc : (fb p).testBit q <;> simp_all <;> rfl, rfl⟩)
  · refine m_iconstN 1 dX12_areFree_14 (by decide) ?_
    refine m_goto 19 dX12_areFree_15 (by decide) ?_
    exact m_iret (ty := .boolean) hR dX12_areFree_19 (⟨by cases hc : (fb p).testBit q <;> simp_all <;> rfl, rfl⟩)
theorem s_X12_erase (h : moTx d bs) : mSpecI l W mX12_erase dep [.ref (xad W 240)] d (fun r d' => r = nI bs.length ∧ moTx d' [] ∧ d' = seI d 240 4 (nI 0)) := by
  refine m_spec RX12 [some (.ref (xad W 240)), none] rfl (by decide +kernel) rfl rfl (fun K hR => ?_)
  refine m_aload_n dX12_erase_0 rfl ?_
  refine m_get fl_X12_87 (by decide) rfl rfl dX12_erase_1 ?_
  refine m_eqi (h.1) ?_
  refine m_istore_n dX12_erase_4 (Nat.le_of_ble_eq_true rfl) rfl ?_
  refine m_aload_n dX12_erase_5 rfl ?_
  refine m_iconstN 0 dX12_erase_6 (by decide) ?_
  refine m_put fl_X12_87 (by decide) rfl (Nat.le_of_ble_eq_true rfl) rfl dX12_erase_7 ?_
  refine m_iload_n dX12_erase_10 rfl ?_
  exact m_iret (ty := .int) hR dX12_erase_11 (⟨rfl, ⟨se_s _ _ _ _, Nat.zero_le _, fun i hi => absurd hi (Nat.not_lt_zero i)⟩, rfl⟩)
theorem s_X12_isLetter (h : moLet d k fb) {m : Nat} (hm : m < k) : mSpecI l W mX12_isLetter (dep + 1) [.ref (xad W 240), .int (nI m)] d (fun r d' => r = 1 ∧ d' = d) := by
  have hk := h.2.2.2.1
  refine m_spec RX12 [some (.ref (xad W 240)), some (.int (nI m))] rfl (by decide +kernel) rfl rfl (fun K hR => ?_)
  refine m_iload_n dX12_isLetter_0 rfl ?_
  refine m_iconstN 0 dX12_isLetter_1 (by decide) ?_
  refine m_aload_n dX12_isLetter_2 rfl ?_
  refine m_get fl_X12_7 (by decide) rfl rfl dX12_isLetter_3 ?_
  refine m_eqi (h.1) ?_
  refine m_iconstN 1 dX12_isLetter_6 (by decide) ?_
  first | refine m_isubN dX12_isLetter_7 (by omega) ?_ | refine m_isub dX12_isLetter_7 ?_
  refine m_callSIp (s_X12_inY (x := nI m) (a := nI 0) (b := nI (k - 1)) ((nI_leI (by omega) (by omega)).mpr (by omega)) ((nI_leI (by omega) (by omega)).mpr (by omega))) cs_X12_83 dX12_isLetter_8 ?_
  exact m_iret (ty := .boolean) hR dX12_isLetter_11 (⟨rfl, rfl⟩)
theorem s_X12_isLetterO (h : moLet d k fb) (hx : x < 0 ∨ nI k ≤ x) : mSpecI l W mX12_isLetter (dep + 1) [.ref (xad W 240), .int x] d (fun r d' => r = 0 ∧ d' = d) := by
  have hk := h.2.2.2.1
  have hk1 := h.2.2.1
  have h3 : x < nI 0 ∨ nI (k - 1) < x := by
    rcases hx with h | h
    · exact Or.inl h
    · refine Or.inr ?_
      have h4 := Int32.le_iff_toInt_le.mp h
      rw [Int32.lt_iff_toInt_lt]
      rw [nI_toInt (by omega)] at h4 ⊢
      omega
  refine m_spec RX12 [some (.ref (xad W 240)), some (.int x)] rfl (by decide +kernel) rfl rfl (fun K hR => ?_)
  refine m_iload_n dX12_isLetter_0 rfl ?_
  refine m_iconstN 0 dX12_isLetter_1 (by decide) ?_
  refine m_aload_n dX12_isLetter_2 rfl ?_
  refine m_get fl_X12_7 (by decide) rfl rfl dX12_isLetter_3 ?_
  refine m_eqi (h.1) ?_
  refine m_iconstN 1 dX12_isLetter_6 (by decide) ?_
  first | refine m_isubN dX12_isLetter_7 (by omega) ?_ | refine m_isub dX12_isLetter_7 ?_
  refine m_callSIp (s_X12_inN h3) cs_X12_83 dX12_isLetter_8 ?_
  exact m_iret (ty := .boolean) hR dX12_isLetter_11 (⟨rfl, rfl⟩)
theorem moHp.put {hs : Nat → List Nat} {d' : xD} {n : Nat} {xs : List Nat} (h : moHp d k hs) (hn : n < 4) (h24 : xs.length ≤ 24) (hx : ∀ x ∈ xs, x < k) (h1 : d'.1 242 n = nI xs.length) (h2 : ∀ j, j ≠ n → d'.1 242 j = d.1 242 j) (h3 : ∀ i, i < xs.length → d'.1 243 (24 * n + i) = nI (xs.getD i 0)) (h4 : ∀ j i, j ≠ n → i < 24 → d'.1 243 (24 * j + i) = d.1 243 (24 * j + i)) : moHp d' k (fun j => if j = n then xs else hs j) := fun j hj => by
  by_cases e : j = n
  · subst e
    simp only [if_true]
    exact ⟨h1, h24, h3, hx⟩
  · simp only [if_neg e]
    have := h j hj
    exact ⟨by rw [h2 j e]; exact this.1, this.2.1, fun i hi => by rw [h4 j i e (by omega)]; exact this.2.2.1 i hi, this.2.2.2⟩
theorem s_X12_clearO (hx : hN x = none) : mSpecI l W mX12_clear (dep + 2) [.ref (xad W 240), .int x] d (fun r d' => r = -2 ∧ d' = d) := by
  refine m_spec RX12 [some (.ref (xad W 240)), some (.int x), none] rfl (by decide +kernel) rfl rfl (fun K hR => ?_)
  refine m_iload_n dX12_clear_0 rfl ?_
  refine m_callSIp (s_X12_isHeapO hx) cs_X12_172 dX12_clear_1 ?_
  refine m_if_ne 10 dX12_clear_4 (by decide) (fun c4 => by exfalso; exact c4 rfl) (fun c4 => ?_)
  refine m_bipush (v := -2) dX12_clear_7 (by decide) ?_
  exact m_iret (ty := .int) hR dX12_clear_9 (⟨rfl, rfl⟩)
theorem s_X12_clear (hx : hN x = some n) (hs : moSt d σ) : mSpecI l W mX12_clear (dep + 2) [.ref (xad W 240), .int x] d (fun r d' => r = nI (σ.2.2 n).length ∧ moSt d' (setH σ n []) ∧ chg [242] d d') := by
  obtain ⟨hn, rfl⟩ := hN_some hx
  refine m_spec RX12 [some (.ref (xad W 240)), some (.int (nI n)), none] rfl (by decide +kernel) rfl rfl (fun K hR => ?_)
  refine m_iload_n dX12_clear_0 rfl ?_
  refine m_callSIp (s_X12_isHeap hx) cs_X12_172 dX12_clear_1 ?_
  refine m_if_ne 10 dX12_clear_4 (by decide) (fun c4 => ?_) (fun c4 => by exfalso; exact c4 (by decide))
  refine m_aload_n dX12_clear_10 rfl ?_
  refine m_get fl_X12_17 (by decide) rfl rfl dX12_clear_11 ?_
  refine m_iload_n dX12_clear_14 rfl ?_
  refine m_iald (by first | exact ⟨by decide, by decide, fun _ => rfl⟩ | exact isI_arr _ (by omega) | exact isI_mv _ (by omega) | exact isI_ne _ (by omega)) (by omega) dX12_clear_15 ?_
  refine m_eqi ((hs.2 n hn).1) ?_
  refine m_istore_n dX12_clear_16 (Nat.le_of_ble_eq_true rfl) rfl ?_
  refine m_aload_n dX12_clear_17 rfl ?_
  refine m_get fl_X12_17 (by decide) rfl rfl dX12_clear_18 ?_
  refine m_iload_n dX12_clear_21 rfl ?_
  refine m_iconstN 0 dX12_clear_22 (by decide) ?_
  refine m_iast (by first | exact ⟨by decide, by decide, fun _ => rfl⟩ | exact isI_arr _ (by omega) | exact isI_mv _ (by omega) | exact isI_ne _ (by omega)) (by omega) dX12_clear_23 ?_
  refine m_iload_n dX12_clear_24 rfl ?_
  have hc : chg [242] d (seI d 242 n (nI 0)) := chg.rf.se (by simp)
  exact m_iret (ty := .int) hR dX12_clear_25 (⟨rfl, ⟨hs.1.fr hc (by simp) (by simp), hs.2.put hn (Nat.zero_le _) (fun x hx => by cases hx) (se_s _ _ _ _) (fun j hne => se_n _ _ hne) (fun i hi => absurd hi (Nat.not_lt_zero i)) (fun j i _ _ => rfl)⟩, hc⟩)
end MOD
