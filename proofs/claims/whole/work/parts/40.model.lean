/-! the law's model: letters, heaps, text -/
def moLet (d : xD) (k : Nat) (fb : Nat → Nat) : Prop := d.1 240 0 = nI k ∧ (∀ p, p < 6 → d.1 241 p = nI (fb p)) ∧ fbOk k fb
def moHp (d : xD) (k : Nat) (hs : Nat → List Nat) : Prop := ∀ j, j < 4 → d.1 242 j = nI (hs j).length ∧ (hs j).length ≤ 24 ∧ (∀ i, i < (hs j).length → d.1 243 (24 * j + i) = nI ((hs j).getD i 0)) ∧ ∀ x ∈ hs j, x < k
def moSt (d : xD) (σ : St) : Prop := moLet d σ.1 σ.2.1 ∧ moHp d σ.1 σ.2.2
def moTx (d : xD) (bs : List Nat) : Prop := d.1 240 4 = nI bs.length ∧ bs.length ≤ 160 ∧ ∀ i, i < bs.length → d.1 244 i = nI (bs.getD i 0) ∧ bs.getD i 0 < 256
theorem moLet.fr {S : List Nat} {d d' : xD} {k : Nat} {fb : Nat → Nat} (h : moLet d k fb) (hc : chg S d d') (h1 : 240 ∉ S) (h2 : 241 ∉ S) : moLet d' k fb := ⟨by rw [(hc _ h1).1]; exact h.1, fun p hp => by rw [(hc _ h2).1]; exact h.2.1 p hp, h.2.2⟩
theorem moHp.fr {S : List Nat} {d d' : xD} {k : Nat} {hs : Nat → List Nat} (h : moHp d k hs) (hc : chg S d d') (h1 : 242 ∉ S) (h2 : 243 ∉ S) : moHp d' k hs := by
  unfold moHp
  rw [(hc _ h1).1, (hc _ h2).1]
  exact h
theorem bytl_lt {d : xD} {bs : List Nat} {v : Int64} {n : Nat} (h : ∀ i, i < bs.length → d.1 244 i = nI (bs.getD i 0) ∧ bs.getD i 0 < 256) (q : Nat) (hq : q < bs.length + n) : (bs ++ bytL v n).getD q 0 < 256 := by
  rw [List.getD_eq_getElem?_getD]
  by_cases e : q < bs.length
  · rw [List.getElem?_append_left e, ← List.getD_eq_getElem?_getD]
    exact (h q e).2
  · rw [List.getElem?_append_right (by omega)]
    have hl : q - bs.length < (bytL v n).length := by rw [bytL_len]; omega
    rw [List.getElem?_eq_getElem hl]
    have hm := List.getElem_mem hl
    obtain ⟨i, -, e2⟩ := List.mem_map.mp hm
    show (bytL v n)[q - bs.length] < 256
    rw [← e2]
    exact Nat.mod_lt _ (by decide)
section MOD
variable {l : Launch} {W : xW} {dep : Nat} {d : xD} {bs : List Nat} {σ : St} {x y : Int32} {n k : Nat} {fb : Nat → Nat}
theorem s_X12_inY {a b : Int32} (h1 : a ≤ x) (h2 : x ≤ b) : mSpecI l W mX12_in dep [.int x, .int a, .int b] d (fun r d' => r = 1 ∧ d' = d) := by
  refine m_spec RX12 [some (.int x), some (.int a), some (.int b)] rfl (by decide +kernel) rfl rfl (fun K hR => ?_)
  refine m_iload_n dX12_in_0 rfl ?_
  refine m_iload_n dX12_in_1 rfl ?_
  refine m_icmp_lt 14 dX12_in_2 (by decide) (fun c2 => by exfalso; exact absurd c2 (Int32.not_lt.mpr h1)) (fun c2 => ?_)
  refine m_iload_n dX12_in_5 rfl ?_
  refine m_iload_n dX12_in_6 rfl ?_
  refine m_icmp_gt 14 dX12_in_7 (by decide) (fun c7 => by exfalso; exact absurd c7 (Int32.not_lt.mpr h2)) (fun c7 => ?_)
  refine m_iconstN 1 dX12_in_10 (by decide) ?_
  refine m_goto 15 dX12_in_11 (by decide) ?_
  exact m_iret (ty := .boolean) hR dX12_in_15 (⟨rfl, rfl⟩)
theorem s_X12_inN {a b : Int32} (h : x < a ∨ b < x) : mSpecI l W mX12_in dep [.int x, .int a, .int b] d (fun r d' => r = 0 ∧ d' = d) := by
  refine m_spec RX12 [some (.int x), some (.int a), some (.int b)] rfl (by decide +kernel) rfl rfl (fun K hR => ?_)
  refine m_iload_n dX12_in_0 rfl ?_
  refine m_iload_n dX12_in_1 rfl ?_
  refine m_icmp_lt 14 dX12_in_2 (by decide) (fun c2 => ?_) (fun c2 => ?_)
  · refine m_iconstN 0 dX12_in_14 (by decide) ?_
    exact m_iret (ty := .boolean) hR dX12_in_15 (⟨rfl, rfl⟩)
  · refine m_iload_n dX12_in_5 rfl ?_
    refine m_iload_n dX12_in_6 rfl ?_
    refine m_icmp_gt 14 dX12_in_7 (by decide) (fun c7 => ?_) (fun c7 => by exfalso; exact h.elim c2 c7)
    refine m_iconstN 0 dX12_in_14 (by decide) ?_
    exact m_iret (ty := .boolean) hR dX12_in_15 (⟨rfl, rfl⟩)
theorem s_X12_isHeap (hx : hN x = some n) : mSpecI l W mX12_isHeap (dep + 1) [.int x] d (fun r d' => r = 1 ∧ d' = d) := by
  obtain ⟨hn, rfl⟩ := hN_some hx
  refine m_spec RX12 [some (.int (nI n))] rfl (by decide +kernel) rfl rfl (fun K hR => ?_)
  refine m_iload_n dX12_isHeap_0 rfl ?_
  refine m_iconstN 0 dX12_isHeap_1 (by decide) ?_
  refine m_iconstN 3 dX12_isHeap_2 (by decide) ?_
  refine m_callSIp (s_X12_inY (x := nI n) (a := nI 0) (b := nI 3) ((nI_leI (by omega) (by omega)).mpr (by omega)) ((nI_leI (by omega) (by omega)).mpr (by omega))) cs_X12_83 dX12_isHeap_3 ?_
  exact m_iret (ty := .boolean) hR dX12_isHeap_6 (⟨rfl, rfl⟩)
theorem s_X12_isHeapO (hx : hN x = none) : mSpecI l W mX12_isHeap (dep + 1) [.int x] d (fun r d' => r = 0 ∧ d' = d) := by
  have h3 : x < nI 0 ∨ nI 3 < x := by
    rcases hN_none hx with h | h
    · exact Or.inl h
    · refine Or.inr ?_
      have h4 := Int32.le_iff_toInt_le.mp h
      rw [Int32.lt_iff_toInt_lt]
      rw [nI_toInt (by decide)] at h4 ⊢
      omega
  refine m_spec RX12 [some (.int x)] rfl (by decide +kernel) rfl rfl (fun K hR => ?_)
  refine m_iload_n dX12_isHeap_0 rfl ?_
  refine m_iconstN 0 dX12_isHeap_1 (by decide) ?_
  refine m_iconstN 3 dX12_isHeap_2 (by decide) ?_
  refine m_callSIp (s_X12_inN h3) cs_X12_83 dX12_isHeap_3 ?_
  exact m_iret (ty := .boolean) hR dX12_isHeap_6 (⟨rfl, rfl⟩)
theorem s_X12_areFree (h : moLet d k fb) {p q : Nat} (hp : p < 6) (hq : q < 6) : mSpecI l W mX12_areFree dep [.ref (xad W 240), .int (nI p), .int (nI q)] d (fun r d' => r = (if (fb p).testBit q = true then 1 else 0) ∧ d' = d) := by
  have h64 := h.2.2.lt64 hp
  refine m_spec RX12 [some (.ref (xad W 240)), some (.int (nI p)), some (.int (nI q))] rfl (by decide +kernel) rfl rfl (fun K hR => ?_)
  refine m_aload_n dX12_areFree_0 rfl ?_
  refine m_get fl_X12_13 (by decide) rfl rfl dX12_areFree_1 ?_
  refine m_iload_n dX12_areFree_4 rfl ?_
  refine m_iald (by first | exact ⟨by decide, by decide, fun _ => rfl⟩ | exact isI_arr _ (by omega) | exact isI_mv _ (by omega) | exact isI_ne _ (by omega)) (by omega) dX12_areFree_5 ?_
  refine m_eqi (h.2.1 p hp) ?_
  refine m_iload_n dX12_areFree_6 rfl ?_
  refine m_ishr dX12_areFree_7 ?_
  refine m_iconstN 1 dX12_areFree_8 (by decide) ?_
  refine m_iand dX12_areFree_9 ?_
  refine m_eqi (nI_bit (by omega) (by omega)) ?_
  refine m_iconstN 1 dX12_areFree_10 (by decide) ?_
  have hb : ((fb p).testBit q).toNat < 2 := Bool.toNat_lt _
  first | refine m_icmp_neN 18 dX12_areFree_11 (by decide) (by omega) (by omega) (fun c11 => ?_) (fun c11 => ?_) | refine m_icmp_ne 18 dX12_areFree_11 (by decide) (fun c11 => ?_) (fun c11 => ?_)
  · refine m_iconstN 0 dX12_areFree_18 (by decide) ?_
    exact m_iret (ty := .boolean) hR dX12_areFree_19 (⟨by cases hc : (fb p).testBit q <;> simp_all <;> rfl, rfl⟩)
  · refine m_iconstN 1 dX12_areFree_14 (by decide) ?_
    refine m_goto 19 dX12_areFree_15 (by decide) ?_
    exact m_iret (ty := .boolean) hR dX12_areFree_19 (⟨by cases hc : (fb p).testBit q <;> simp_all <;> rfl, rfl⟩)
theorem s_X12_erase (h : moTx d bs) : mSpecI l W mX12_erase dep [.ref (xad W 240)] d (fun r d' => r = nI bs.length ∧ moTx d' [] ∧ d' = seI d 240 4 (nI 0)) := by
  refine m_spec RX12 [some (.ref (xad W 240)), none] rfl (by decide +kernel) rfl rfl (fun K hR => ?_)
  refine m_aload_n dX12_erase_0 rfl ?_
  refine m_get fl_X12_87 (by decide) rfl rfl dX12_erase_1 ?_
  refine m_eqi (h.1) ?_
  refine m_istore_n dX12_erase_4 (Nat.le_of_ble_eq_true rfl) rfl ?_
  refine m_aload_n dX12_erase_5 rfl ?_
  refine m_iconstN 0 dX12_erase_6 (by decide) ?_
  refine m_put fl_X12_87 (by decide) rfl (Nat.le_of_ble_eq_true rfl) rfl dX12_erase_7 ?_
  refine m_iload_n dX12_erase_10 rfl ?_
  exact m_iret (ty := .int) hR dX12_erase_11 (⟨rfl, ⟨se_s _ _ _ _, Nat.zero_le _, fun i hi => absurd hi (Nat.not_lt_zero i)⟩, rfl⟩)
theorem s_X12_isLetter (h : moLet d k fb) {m : Nat} (hm : m < k) : mSpecI l W mX12_isLetter (dep + 1) [.ref (xad W 240), .int (nI m)] d (fun r d' => r = 1 ∧ d' = d) := by
  have hk := h.2.2.2.1
  refine m_spec RX12 [some (.ref (xad W 240)), some (.int (nI m))] rfl (by decide +kernel) rfl rfl (fun K hR => ?_)
  refine m_iload_n dX12_isLetter_0 rfl ?_
  refine m_iconstN 0 dX12_isLetter_1 (by decide) ?_
  refine m_aload_n dX12_isLetter_2 rfl ?_
  refine m_get fl_X12_7 (by decide) rfl rfl dX12_isLetter_3 ?_
  refine m_eqi (h.1) ?_
  refine m_iconstN 1 dX12_isLetter_6 (by decide) ?_
  first | refine m_isubN dX12_isLetter_7 (by omega) ?_ | refine m_isub dX12_isLetter_7 ?_
  refine m_callSIp (s_X12_inY (x := nI m) (a := nI 0) (b := nI (k - 1)) ((nI_leI (by omega) (by omega)).mpr (by omega)) ((nI_leI (by omega) (by omega)).mpr (by omega))) cs_X12_83 dX12_isLetter_8 ?_
  exact m_iret (ty := .boolean) hR dX12_isLetter_11 (⟨rfl, rfl⟩)
theorem s_X12_isLetterO (h : moLet d k fb) (hx : x < 0 ∨ nI k ≤ x) : mSpecI l W mX12_isLetter (dep + 1) [.ref (xad W 240), .int x] d (fun r d' => r = 0 ∧ d' = d) := by
  have hk := h.2.2.2.1
  have hk1 := h.2.2.1
  have h3 : x < nI 0 ∨ nI (k - 1) < x := by
    rcases hx with h | h
    · exact Or.inl h
    · refine Or.inr ?_
      have h4 := Int32.le_iff_toInt_le.mp h
      rw [Int32.lt_iff_toInt_lt]
      rw [nI_toInt (by omega)] at h4 ⊢
      omega
  refine m_spec RX12 [some (.ref (xad W 240)), some (.int x)] rfl (by decide +kernel) rfl rfl (fun K hR => ?_)
  refine m_iload_n dX12_isLetter_0 rfl ?_
  refine m_iconstN 0 dX12_isLetter_1 (by decide) ?_
  refine m_aload_n dX12_isLetter_2 rfl ?_
  refine m_get fl_X12_7 (by decide) rfl rfl dX12_isLetter_3 ?_
  refine m_eqi (h.1) ?_
  refine m_iconstN 1 dX12_isLetter_6 (by decide) ?_
  first | refine m_isubN dX12_isLetter_7 (by omega) ?_ | refine m_isub dX12_isLetter_7 ?_
  refine m_callSIp (s_X12_inN h3) cs_X12_83 dX12_isLetter_8 ?_
  exact m_iret (ty := .boolean) hR dX12_isLetter_11 (⟨rfl, rfl⟩)
theorem moHp.put {hs : Nat → List Nat} {d' : xD} {n : Nat} {xs : List Nat} (h : moHp d k hs) (hn : n < 4) (h24 : xs.length ≤ 24) (hx : ∀ x ∈ xs, x < k) (h1 : d'.1 242 n = nI xs.length) (h2 : ∀ j, j ≠ n → d'.1 242 j = d.1 242 j) (h3 : ∀ i, i < xs.length → d'.1 243 (24 * n + i) = nI (xs.getD i 0)) (h4 : ∀ j i, j ≠ n → i < 24 → d'.1 243 (24 * j + i) = d.1 243 (24 * j + i)) : moHp d' k (fun j => if j = n then xs else hs j) := fun j hj => by
  by_cases e : j = n
  · subst e
    simp only [if_true]
    exact ⟨h1, h24, h3, hx⟩
  · simp only [if_neg e]
    have := h j hj
    exact ⟨by rw [h2 j e]; exact this.1, this.2.1, fun i hi => by rw [h4 j i e (by omega)]; exact this.2.2.1 i hi, this.2.2.2⟩
theorem s_X12_clearO (hx : hN x = none) : mSpecI l W mX12_clear (dep + 2) [.ref (xad W 240), .int x] d (fun r d' => r = -2 ∧ d' = d) := by
  refine m_spec RX12 [some (.ref (xad W 240)), some (.int x), none] rfl (by decide +kernel) rfl rfl (fun K hR => ?_)
  refine m_iload_n dX12_clear_0 rfl ?_
  refine m_callSIp (s_X12_isHeapO hx) cs_X12_172 dX12_clear_1 ?_
  refine m_if_ne 10 dX12_clear_4 (by decide) (fun c4 => by exfalso; exact c4 rfl) (fun c4 => ?_)
  refine m_bipush (v := -2) dX12_clear_7 (by decide) ?_
  exact m_iret (ty := .int) hR dX12_clear_9 (⟨rfl, rfl⟩)
theorem s_X12_clear (hx : hN x = some n) (hs : moSt d σ) : mSpecI l W mX12_clear (dep + 2) [.ref (xad W 240), .int x] d (fun r d' => r = nI (σ.2.2 n).length ∧ moSt d' (setH σ n []) ∧ chg [242] d d') := by
  obtain ⟨hn, rfl⟩ := hN_some hx
  refine m_spec RX12 [some (.ref (xad W 240)), some (.int (nI n)), none] rfl (by decide +kernel) rfl rfl (fun K hR => ?_)
  refine m_iload_n dX12_clear_0 rfl ?_
  refine m_callSIp (s_X12_isHeap hx) cs_X12_172 dX12_clear_1 ?_
  refine m_if_ne 10 dX12_clear_4 (by decide) (fun c4 => ?_) (fun c4 => by exfalso; exact c4 (by decide))
  refine m_aload_n dX12_clear_10 rfl ?_
  refine m_get fl_X12_17 (by decide) rfl rfl dX12_clear_11 ?_
  refine m_iload_n dX12_clear_14 rfl ?_
  refine m_iald (by first | exact ⟨by decide, by decide, fun _ => rfl⟩ | exact isI_arr _ (by omega) | exact isI_mv _ (by omega) | exact isI_ne _ (by omega)) (by omega) dX12_clear_15 ?_
  refine m_eqi ((hs.2 n hn).1) ?_
  refine m_istore_n dX12_clear_16 (Nat.le_of_ble_eq_true rfl) rfl ?_
  refine m_aload_n dX12_clear_17 rfl ?_
  refine m_get fl_X12_17 (by decide) rfl rfl dX12_clear_18 ?_
  refine m_iload_n dX12_clear_21 rfl ?_
  refine m_iconstN 0 dX12_clear_22 (by decide) ?_
  refine m_iast (by first | exact ⟨by decide, by decide, fun _ => rfl⟩ | exact isI_arr _ (by omega) | exact isI_mv _ (by omega) | exact isI_ne _ (by omega)) (by omega) dX12_clear_23 ?_
  refine m_iload_n dX12_clear_24 rfl ?_
  have hc : chg [242] d (seI d 242 n (nI 0)) := chg.rf.se (by simp)
  exact m_iret (ty := .int) hR dX12_clear_25 (⟨rfl, ⟨hs.1.fr hc (by simp) (by simp), hs.2.put hn (Nat.zero_le _) (fun x hx => by cases hx) (se_s _ _ _ _) (fun j hne => se_n _ _ hne) (fun i hi => absurd hi (Nat.not_lt_zero i)) (fun j i _ _ => rfl)⟩, hc⟩)
theorem s_X12_writeO {v : Int64} (hx : x < nI 1 ∨ nI 8 < x) : mSpecI l W mX12_write (dep + 1) [.ref (xad W 240), .long v, .int x] d (fun r d' => r = -3 ∧ d' = d) := by
  refine m_spec RX12 [some (.ref (xad W 240)), some (.long v), none, some (.int x), none] rfl (by decide +kernel) rfl rfl (fun K hR => ?_)
  refine m_iload_n dX12_write_0 rfl ?_
  refine m_iconstN 1 dX12_write_1 (by decide) ?_
  refine m_bipushN 8 dX12_write_2 (by decide) ?_
  refine m_callSIp (s_X12_inN hx) cs_X12_83 dX12_write_4 ?_
  refine m_if_ne 13 dX12_write_7 (by decide) (fun c7 => by exfalso; exact c7 rfl) (fun c7 => ?_)
  refine m_bipush (v := -3) dX12_write_10 (by decide) ?_
  exact m_iret (ty := .int) hR dX12_write_12 (⟨rfl, rfl⟩)
theorem s_X12_write (h : moTx d bs) {v : Int64} {n : Nat} (h1 : 1 ≤ n) (h8 : n ≤ 8) : mSpecI l W mX12_write (dep + 1) [.ref (xad W 240), .long v, .int (nI n)] d (fun r d' => ((bs.length + n ≤ 160 ∧ r = nI (bs.length + n) ∧ moTx d' (bs ++ bytL v n) ∧ ∀ q, q ≠ 4 → d'.1 240 q = d.1 240 q) ∨ (¬ bs.length + n ≤ 160 ∧ r = -5 ∧ d' = d)) ∧ chg [240, 244] d d') := by
  have h160 := h.2.1
  refine m_spec RX12 [some (.ref (xad W 240)), some (.long v), none, some (.int (nI n)), none] rfl (by decide +kernel) rfl rfl (fun K hR => ?_)
  have loop : bs.length + n ≤ 160 → ∀ i, i ≤ n → ∀ d1, (∀ q, q < bs.length + i → d1.1 244 q = nI ((bs ++ bytL v i).getD q 0)) → chg [244] d d1 → mG W K cX12_write RX12 (dep + 1) d1 31 [some (.ref (xad W 240)), some (.long v), none, some (.int (nI n)), some (.int (nI i))] [] := fun hle => x_up _ (fun i hi ih d1 g1 g2 => by
    have h240 : d1.1 240 = d.1 240 := (g2 240 (by simp)).1
    have hsz : d1.1 240 4 = nI bs.length := by rw [h240]; exact h.1
    refine m_iload dX12_write_31 rfl ?_
    refine m_iload_n dX12_write_33 rfl ?_
    first | refine m_icmp_geN 67 dX12_write_34 (by decide) (by omega) (by omega) (fun c34 => ?_) (fun c34 => ?_) | refine m_icmp_ge 67 dX12_write_34 (by decide) (fun c34 => ?_) (fun c34 => ?_)
    · refine m_aload_n dX12_write_67 rfl ?_
      refine m_dup dX12_write_68 rfl ?_
      refine m_get fl_X12_87 (by decide) rfl rfl dX12_write_69 ?_
      refine m_eqi (hsz) ?_
      refine m_iload_n dX12_write_72 rfl ?_
      first | refine m_iaddN dX12_write_73 ?_ | refine m_iadd dX12_write_73 ?_
      refine m_put fl_X12_87 (by decide) rfl (Nat.le_of_ble_eq_true rfl) rfl dX12_write_74 ?_
      refine m_aload_n dX12_write_77 rfl ?_
      refine m_get fl_X12_87 (by decide) rfl rfl dX12_write_78 ?_
      refine m_eqi ((se_s _ _ _ _ : _ = nI (bs.length + n))) ?_
      have e6 : i = n := by omega
      subst e6
      have hl9 : (bs ++ bytL v i).length = bs.length + i := by rw [List.length_append, bytL_len]
      exact m_iret (ty := .int) hR dX12_write_81 (⟨Or.inl ⟨hle, rfl, ⟨by rw [hl9]; exact se_s _ _ _ _, by omega, fun q hq => ⟨se_e (g1 q (by omega)) (by decide), bytl_lt h.2.2 q (by omega)⟩⟩, fun q hq => (se_n _ _ hq).trans (congrFun h240 q)⟩, (g2.mono (by simp)).se (by simp)⟩)
    · refine m_aload_n dX12_write_37 rfl ?_
      refine m_get fl_X12_23 (by decide) rfl rfl dX12_write_38 ?_
      refine m_aload_n dX12_write_41 rfl ?_
      refine m_get fl_X12_87 (by decide) rfl rfl dX12_write_42 ?_
      refine m_eqi (hsz) ?_
      refine m_iload dX12_write_45 rfl ?_
      first | refine m_iaddN dX12_write_47 ?_ | refine m_iadd dX12_write_47 ?_
      refine m_lload_n dX12_write_48 rfl ?_
      refine m_bipushN 8 dX12_write_49 (by decide) ?_
      refine m_iload dX12_write_51 rfl ?_
      first | refine m_imulN dX12_write_53 ?_ | refine m_imul dX12_write_53 ?_
      refine m_lshr dX12_write_54 ?_
      refine m_ldc2 ct_X12_90 dX12_write_55 ?_
      refine m_eql (y := lN 255) (by decide +kernel) ?_
      refine m_land dX12_write_58 ?_
      refine m_l2i dX12_write_59 ?_
      refine m_eqi ((l255 _ : _ = nI (byt v i))) ?_
      refine m_iast (by first | exact ⟨by decide, by decide, fun _ => rfl⟩ | exact isI_arr _ (by omega) | exact isI_mv _ (by omega) | exact isI_ne _ (by omega)) (by omega) dX12_write_60 ?_
      first | refine m_iincN 1 dX12_write_61 (by decide) rfl rfl ?_ | refine m_iinc dX12_write_61 rfl rfl ?_
      refine m_goto 31 dX12_write_64 (by decide) ?_
      refine ih (by omega) _ (fun q hq => ?_) (g2.se (by simp))
      rw [bytL_s, ← List.append_assoc]
      by_cases e : q = bs.length + i
      · subst e
        rw [se_s]
        have e9 : (bs ++ bytL v i ++ [byt v i]).getD (bs.length + i) 0 = byt v i := by
          rw [List.getD_eq_getElem?_getD, List.getElem?_append_right (by rw [List.length_append, bytL_len]; omega), List.length_append, bytL_len, Nat.sub_self]
          rfl
        rw [e9]
        rfl
      · have hlt : q < (bs ++ bytL v i).length := by rw [List.length_append, bytL_len]; omega
        have e9 : (bs ++ bytL v i ++ [byt v i]).getD q 0 = (bs ++ bytL v i).getD q 0 := by
          rw [List.getD_eq_getElem?_getD, List.getElem?_append_left hlt, ← List.getD_eq_getElem?_getD]
        rw [e9]
        exact se_e2 (g1 q (by omega)) e
    )
  refine m_iload_n dX12_write_0 rfl ?_
  refine m_iconstN 1 dX12_write_1 (by decide) ?_
  refine m_bipushN 8 dX12_write_2 (by decide) ?_
  refine m_callSIp (s_X12_inY (x := nI n) (a := nI 1) (b := nI 8) ((nI_leI (by omega) (by omega)).mpr (by omega)) ((nI_leI (by omega) (by omega)).mpr (by omega))) cs_X12_83 dX12_write_4 ?_
  refine m_if_ne 13 dX12_write_7 (by decide) (fun c7 => ?_) (fun c7 => by exfalso; exact c7 (by decide))
  refine m_aload_n dX12_write_13 rfl ?_
  refine m_get fl_X12_87 (by decide) rfl rfl dX12_write_14 ?_
  refine m_eqi (h.1) ?_
  refine m_iload_n dX12_write_17 rfl ?_
  first | refine m_iaddN dX12_write_18 ?_ | refine m_iadd dX12_write_18 ?_
  refine m_sipushN 160 dX12_write_19 (by decide) ?_
  first | refine m_icmp_leN 28 dX12_write_22 (by decide) (by omega) (by omega) (fun c22 => ?_) (fun c22 => ?_) | refine m_icmp_le 28 dX12_write_22 (by decide) (fun c22 => ?_) (fun c22 => ?_)
  · refine m_iconstN 0 dX12_write_28 (by decide) ?_
    refine m_istore dX12_write_29 (Nat.le_of_ble_eq_true rfl) rfl ?_
    exact loop (by omega) 0 (Nat.zero_le _) d (fun q hq => by rw [show bytL v 0 = [] from rfl, List.append_nil]; exact (h.2.2 q (by omega)).1) chg.rf
  · refine m_bipush (v := -5) dX12_write_25 (by decide) ?_
    exact m_iret (ty := .int) hR dX12_write_27 (⟨Or.inr ⟨by omega, rfl, rfl⟩, chg.rf⟩)
theorem s_X12_addF {m : Nat} (hx : hN x = some n) (hm : m < σ.1) (hs : moSt d σ) (hl : (σ.2.2 n).length = 24) : mSpecI l W mX12_add (dep + 2) [.ref (xad W 240), .int x, .int (nI m)] d (fun r d' => r = -5 ∧ d' = d) := by
  obtain ⟨hn, rfl⟩ := hN_some hx
  refine m_spec RX12 [some (.ref (xad W 240)), some (.int (nI n)), some (.int (nI m))] rfl (by decide +kernel) rfl rfl (fun K hR => ?_)
  refine m_iload_n dX12_add_0 rfl ?_
  refine m_callSIp (s_X12_isHeap hx) cs_X12_172 dX12_add_1 ?_
  refine m_if_eq 15 dX12_add_4 (by decide) (fun c4 => by exfalso; exact absurd c4 (by decide)) (fun c4 => ?_)
  refine m_aload_n dX12_add_7 rfl ?_
  refine m_iload_n dX12_add_8 rfl ?_
  refine m_callVIp (s_X12_isLetter hs.1 hm) cv_X12_165 dX12_add_9 ?_
  refine m_if_ne 18 dX12_add_12 (by decide) (fun c12 => ?_) (fun c12 => by exfalso; exact c12 (by decide))
  refine m_aload_n dX12_add_18 rfl ?_
  refine m_get fl_X12_17 (by decide) rfl rfl dX12_add_19 ?_
  refine m_iload_n dX12_add_22 rfl ?_
  refine m_iald (by first | exact ⟨by decide, by decide, fun _ => rfl⟩ | exact isI_arr _ (by omega) | exact isI_mv _ (by omega) | exact isI_ne _ (by omega)) (by omega) dX12_add_23 ?_
  refine m_eqi ((hs.2 n hn).1) ?_
  refine m_bipushN 24 dX12_add_24 (by decide) ?_
  first | refine m_icmp_neN 32 dX12_add_26 (by decide) (by omega) (by omega) (fun c26 => by exfalso; omega) (fun c26 => ?_) | refine m_icmp_ne 32 dX12_add_26 (by decide) (fun c26 => by exfalso; omega) (fun c26 => ?_)
  refine m_bipush (v := -5) dX12_add_29 (by decide) ?_
  exact m_iret (ty := .int) hR dX12_add_31 (⟨rfl, rfl⟩)
theorem s_X12_add {m : Nat} (hx : hN x = some n) (hm : m < σ.1) (hs : moSt d σ) (hl : (σ.2.2 n).length < 24) : mSpecI l W mX12_add (dep + 2) [.ref (xad W 240), .int x, .int (nI m)] d (fun r d' => r = nI ((σ.2.2 n).length + 1) ∧ moSt d' (setH σ n (σ.2.2 n ++ [m])) ∧ chg [242, 243] d d') := by
  obtain ⟨hn, rfl⟩ := hN_some hx
  refine m_spec RX12 [some (.ref (xad W 240)), some (.int (nI n)), some (.int (nI m))] rfl (by decide +kernel) rfl rfl (fun K hR => ?_)
  refine m_iload_n dX12_add_0 rfl ?_
  refine m_callSIp (s_X12_isHeap hx) cs_X12_172 dX12_add_1 ?_
  refine m_if_eq 15 dX12_add_4 (by decide) (fun c4 => by exfalso; exact absurd c4 (by decide)) (fun c4 => ?_)
  refine m_aload_n dX12_add_7 rfl ?_
  refine m_iload_n dX12_add_8 rfl ?_
  refine m_callVIp (s_X12_isLetter hs.1 hm) cv_X12_165 dX12_add_9 ?_
  refine m_if_ne 18 dX12_add_12 (by decide) (fun c12 => ?_) (fun c12 => by exfalso; exact c12 (by decide))
  refine m_aload_n dX12_add_18 rfl ?_
  refine m_get fl_X12_17 (by decide) rfl rfl dX12_add_19 ?_
  refine m_iload_n dX12_add_22 rfl ?_
  refine m_iald (by first | exact ⟨by decide, by decide, fun _ => rfl⟩ | exact isI_arr _ (by omega) | exact isI_mv _ (by omega) | exact isI_ne _ (by omega)) (by omega) dX12_add_23 ?_
  refine m_eqi ((hs.2 n hn).1) ?_
  refine m_bipushN 24 dX12_add_24 (by decide) ?_
  first | refine m_icmp_neN 32 dX12_add_26 (by decide) (by omega) (by omega) (fun c26 => ?_) (fun c26 => by exfalso; omega) | refine m_icmp_ne 32 dX12_add_26 (by decide) (fun c26 => ?_) (fun c26 => by exfalso; omega)
  refine m_aload_n dX12_add_32 rfl ?_
  refine m_get fl_X12_20 (by decide) rfl rfl dX12_add_33 ?_
  refine m_bipushN 24 dX12_add_36 (by decide) ?_
  refine m_iload_n dX12_add_38 rfl ?_
  first | refine m_imulN dX12_add_39 ?_ | refine m_imul dX12_add_39 ?_
  refine m_aload_n dX12_add_40 rfl ?_
  refine m_get fl_X12_17 (by decide) rfl rfl dX12_add_41 ?_
  refine m_iload_n dX12_add_44 rfl ?_
  refine m_iald (by first | exact ⟨by decide, by decide, fun _ => rfl⟩ | exact isI_arr _ (by omega) | exact isI_mv _ (by omega) | exact isI_ne _ (by omega)) (by omega) dX12_add_45 ?_
  refine m_eqi ((hs.2 n hn).1) ?_
  first | refine m_iaddN dX12_add_46 ?_ | refine m_iadd dX12_add_46 ?_
  refine m_iload_n dX12_add_47 rfl ?_
  refine m_iast (by first | exact ⟨by decide, by decide, fun _ => rfl⟩ | exact isI_arr _ (by omega) | exact isI_mv _ (by omega) | exact isI_ne _ (by omega)) (by omega) dX12_add_48 ?_
  refine m_aload_n dX12_add_49 rfl ?_
  refine m_get fl_X12_17 (by decide) rfl rfl dX12_add_50 ?_
  refine m_iload_n dX12_add_53 rfl ?_
  first | refine m_dup2_2 dX12_add_54 rfl ?_ | refine m_dup2_11 dX12_add_54 rfl rfl ?_
  refine m_iald (by first | exact ⟨by decide, by decide, fun _ => rfl⟩ | exact isI_arr _ (by omega) | exact isI_mv _ (by omega) | exact isI_ne _ (by omega)) (by omega) dX12_add_55 ?_
  refine m_eqi ((se_e (hs.2 n hn).1 (by decide) : _ = nI (σ.2.2 n).length)) ?_
  refine m_iconstN 1 dX12_add_56 (by decide) ?_
  first | refine m_iaddN dX12_add_57 ?_ | refine m_iadd dX12_add_57 ?_
  refine m_iast (by first | exact ⟨by decide, by decide, fun _ => rfl⟩ | exact isI_arr _ (by omega) | exact isI_mv _ (by omega) | exact isI_ne _ (by omega)) (by omega) dX12_add_58 ?_
  refine m_aload_n dX12_add_59 rfl ?_
  refine m_get fl_X12_17 (by decide) rfl rfl dX12_add_60 ?_
  refine m_iload_n dX12_add_63 rfl ?_
  refine m_iald (by first | exact ⟨by decide, by decide, fun _ => rfl⟩ | exact isI_arr _ (by omega) | exact isI_mv _ (by omega) | exact isI_ne _ (by omega)) (by omega) dX12_add_64 ?_
  refine m_eqi ((se_s _ _ _ _ : _ = nI ((σ.2.2 n).length + 1))) ?_
  have hc : chg [242, 243] d (seI (seI d 243 (24 * n + (σ.2.2 n).length) (nI m)) 242 n (nI ((σ.2.2 n).length + 1))) := (chg.rf.se (by simp)).se (by simp)
  have hput : moHp (seI (seI d 243 (24 * n + (σ.2.2 n).length) (nI m)) 242 n (nI ((σ.2.2 n).length + 1))) σ.1 (fun j => if j = n then σ.2.2 n ++ [m] else σ.2.2 j) := by
    refine hs.2.put hn (by simp; omega) (fun x hx => ?_) (by rw [List.length_append]; exact se_s _ _ _ _) (fun j hne => (se_n _ _ hne).trans rfl) (fun i hi => ?_) (fun j i hne hi => ?_)
    · rcases List.mem_append.mp hx with hx | hx
      · exact (hs.2 n hn).2.2.2 x hx
      · rw [List.mem_singleton.mp hx]; exact hm
    · refine se_e ?_ (by decide)
      by_cases e : i = (σ.2.2 n).length
      · subst e
        rw [se_s]
        simp
      · have hi2 : i < (σ.2.2 n).length := by simp at hi; omega
        rw [se_n _ _ (by omega), (hs.2 n hn).2.2.1 i hi2]
        rw [List.getD_eq_getElem?_getD, List.getD_eq_getElem?_getD, List.getElem?_append_left hi2]
    · refine (se_e rfl (by decide)).trans (se_n _ _ ?_)
      omega
  exact m_iret (ty := .int) hR dX12_add_65 (⟨rfl, ⟨hs.1.fr hc (by simp) (by simp), hput⟩, hc⟩)
/-- cell o begins with the numbers xs -/
def arrB (d : xD) (o : Nat) (xs : List Nat) : Prop := ∀ i, i < xs.length → d.1 o i = nI (xs.getD i 0)
theorem s_X12_take {o : Nat} (ho : isI W o 48) (ho2 : o ≠ 242 ∧ o ≠ 243) (hn : n < 4) (hs : moSt d σ) : mSpecV l W mX12_take dep [.ref (xad W 240), .int (nI n), .ref (xad W o)] d (fun d' => arrB d' o (σ.2.2 n) ∧ chg [o] d d') := by
  have h24 := (hs.2 n hn).2.1
  refine m_spec RX12 [some (.ref (xad W 240)), some (.int (nI n)), some (.ref (xad W o)), none] rfl (by decide +kernel) rfl rfl (fun K hR => ?_)
  have loop : ∀ i, i ≤ (σ.2.2 n).length → ∀ d1, (∀ q, q < i → d1.1 o q = nI ((σ.2.2 n).getD q 0)) → chg [o] d d1 → mG W K cX12_take RX12 dep d1 2 [some (.ref (xad W 240)), some (.int (nI n)), some (.ref (xad W o)), some (.int (nI i))] [] := x_up _ (fun i hi ih d1 g1 g2 => by
    have h1 := hs.2.fr g2 (by simp; omega) (by simp; omega)
    refine m_iload_n dX12_take_2 rfl ?_
    refine m_aload_n dX12_take_3 rfl ?_
    refine m_get fl_X12_17 (by decide) rfl rfl dX12_take_4 ?_
    refine m_iload_n dX12_take_7 rfl ?_
    refine m_iald (by first | exact ⟨by decide, by decide, fun _ => rfl⟩ | exact isI_arr _ (by omega) | exact isI_mv _ (by omega) | exact isI_ne _ (by omega)) (by omega) dX12_take_8 ?_
    refine m_eqi ((h1 n hn).1) ?_
    first | refine m_icmp_geN 32 dX12_take_9 (by decide) (by omega) (by omega) (fun c9 => ?_) (fun c9 => ?_) | refine m_icmp_ge 32 dX12_take_9 (by decide) (fun c9 => ?_) (fun c9 => ?_)
    · have e6 : i = (σ.2.2 n).length := by omega
      exact m_vret hR dX12_take_32 (⟨fun q hq => g1 q (by omega), g2⟩)
    · refine m_aload_n dX12_take_12 rfl ?_
      refine m_iload_n dX12_take_13 rfl ?_
      refine m_aload_n dX12_take_14 rfl ?_
      refine m_get fl_X12_20 (by decide) rfl rfl dX12_take_15 ?_
      refine m_bipushN 24 dX12_take_18 (by decide) ?_
      refine m_iload_n dX12_take_20 rfl ?_
      first | refine m_imulN dX12_take_21 ?_ | refine m_imul dX12_take_21 ?_
      refine m_iload_n dX12_take_22 rfl ?_
      first | refine m_iaddN dX12_take_23 ?_ | refine m_iadd dX12_take_23 ?_
      refine m_iald (by first | exact ⟨by decide, by decide, fun _ => rfl⟩ | exact isI_arr _ (by omega) | exact isI_mv _ (by omega) | exact isI_ne _ (by omega)) (by omega) dX12_take_24 ?_
      refine m_eqi ((h1 n hn).2.2.1 i (by omega)) ?_
      refine m_iast ho (by omega) dX12_take_25 ?_
      first | refine m_iincN 1 dX12_take_26 (by decide) rfl rfl ?_ | refine m_iinc dX12_take_26 rfl rfl ?_
      refine m_goto 2 dX12_take_29 (by decide) ?_
      refine ih (by omega) _ (fun q hq => ?_) (g2.se (by simp))
      by_cases e : q = i
      · subst e; exact se_s _ _ _ _
      · exact se_e2 (g1 q (by omega)) e
    )
  refine m_iconstN 0 dX12_take_0 (by decide) ?_
  refine m_istore_n dX12_take_1 (Nat.le_of_ble_eq_true rfl) rfl ?_
  exact loop 0 (Nat.zero_le _) d (fun q hq => absurd hq (Nat.not_lt_zero q)) chg.rf
theorem s_X12_keep {xs : List Nat} (hn : n < 4) (hs : moSt d σ) (h24 : xs.length ≤ 24) (hx : ∀ x ∈ xs, x < σ.1) (hm : arrB d 248 xs) : mSpecI l W mX12_keep dep [.ref (xad W 240), .int (nI n), .int (nI xs.length)] d (fun r d' => r = nI xs.length ∧ moSt d' (setH σ n xs) ∧ chg [242, 243] d d') := by
  refine m_spec RX12 [some (.ref (xad W 240)), some (.int (nI n)), some (.int (nI xs.length)), none] rfl (by decide +kernel) rfl rfl (fun K hR => ?_)
  have loop : ∀ i, i ≤ xs.length → ∀ d1, d1.1 242 n = nI xs.length → (∀ j, j ≠ n → d1.1 242 j = d.1 242 j) → (∀ q, q < i → d1.1 243 (24 * n + q) = nI (xs.getD q 0)) → (∀ j q, j ≠ n → q < 24 → d1.1 243 (24 * j + q) = d.1 243 (24 * j + q)) → chg [242, 243] d d1 → mG W K cX12_keep RX12 dep d1 9 [some (.ref (xad W 240)), some (.int (nI n)), some (.int (nI xs.length)), some (.int (nI i))] [] := x_up _ (fun i hi ih d1 g1 g2 g3 g4 g5 => by
    have hm1 : i < xs.length → d1.1 248 i = nI (xs.getD i 0) := fun hlt => by rw [(g5 248 (by simp)).1]; exact hm i hlt
    refine m_iload_n dX12_keep_9 rfl ?_
    refine m_iload_n dX12_keep_10 rfl ?_
    first | refine m_icmp_geN 37 dX12_keep_11 (by decide) (by omega) (by omega) (fun c11 => ?_) (fun c11 => ?_) | refine m_icmp_ge 37 dX12_keep_11 (by decide) (fun c11 => ?_) (fun c11 => ?_)
    · refine m_iload_n dX12_keep_37 rfl ?_
      have e6 : i = xs.length := by omega
      subst e6
      exact m_iret (ty := .int) hR dX12_keep_38 (⟨rfl, ⟨hs.1.fr g5 (by simp) (by simp), hs.2.put hn h24 hx g1 g2 g3 g4⟩, g5⟩)
    · refine m_aload_n dX12_keep_14 rfl ?_
      refine m_get fl_X12_20 (by decide) rfl rfl dX12_keep_15 ?_
      refine m_bipushN 24 dX12_keep_18 (by decide) ?_
      refine m_iload_n dX12_keep_20 rfl ?_
      first | refine m_imulN dX12_keep_21 ?_ | refine m_imul dX12_keep_21 ?_
      refine m_iload_n dX12_keep_22 rfl ?_
      first | refine m_iaddN dX12_keep_23 ?_ | refine m_iadd dX12_keep_23 ?_
      refine m_aload_n dX12_keep_24 rfl ?_
      refine m_get fl_X12_35 (by decide) rfl rfl dX12_keep_25 ?_
      refine m_iload_n dX12_keep_28 rfl ?_
      refine m_iald (by first | exact ⟨by decide, by decide, fun _ => rfl⟩ | exact isI_arr _ (by omega) | exact isI_mv _ (by omega) | exact isI_ne _ (by omega)) (by omega) dX12_keep_29 ?_
      refine m_eqi (hm1 (by omega)) ?_
      refine m_iast (by first | exact ⟨by decide, by decide, fun _ => rfl⟩ | exact isI_arr _ (by omega) | exact isI_mv _ (by omega) | exact isI_ne _ (by omega)) (by omega) dX12_keep_30 ?_
      first | refine m_iincN 1 dX12_keep_31 (by decide) rfl rfl ?_ | refine m_iinc dX12_keep_31 rfl rfl ?_
      refine m_goto 9 dX12_keep_34 (by decide) ?_
      refine ih (by omega) _ (se_e g1 (by decide)) (fun j hj => se_e (g2 j hj) (by decide)) (fun q hq => ?_) (fun j q hj hq => se_e2 (g4 j q hj hq) (by omega)) (g5.se (by simp))
      by_cases e : q = i
      · subst e; exact se_s _ _ _ _
      · exact se_e2 (g3 q (by omega)) (by omega)
    )
  refine m_aload_n dX12_keep_0 rfl ?_
  refine m_get fl_X12_17 (by decide) rfl rfl dX12_keep_1 ?_
  refine m_iload_n dX12_keep_4 rfl ?_
  refine m_iload_n dX12_keep_5 rfl ?_
  refine m_iast (by first | exact ⟨by decide, by decide, fun _ => rfl⟩ | exact isI_arr _ (by omega) | exact isI_mv _ (by omega) | exact isI_ne _ (by omega)) (by omega) dX12_keep_6 ?_
  refine m_iconstN 0 dX12_keep_7 (by decide) ?_
  refine m_istore_n dX12_keep_8 (Nat.le_of_ble_eq_true rfl) rfl ?_
  exact loop 0 (Nat.zero_le _) _ (se_s _ _ _ _) (fun j hj => se_n _ _ hj) (fun q hq => absurd hq (Nat.not_lt_zero q)) (fun j q _ _ => rfl) (chg.rf.se (by simp))
end MOD
