/-! the law's model: beginnings -/
theorem and16 (y : Int32) : y &&& nI 65535 = nI (y.toBitVec.toNat % 65536) := by
  apply Int32.toBitVec_inj.mp
  rw [Int32.toBitVec_and]
  show y.toBitVec &&& BitVec.ofNat 32 65535 = BitVec.ofNat 32 (y.toBitVec.toNat % 65536)
  apply BitVec.eq_of_toNat_eq
  rw [BitVec.toNat_and, BitVec.toNat_ofNat, BitVec.toNat_ofNat, Nat.mod_eq_of_lt (show 65535 < 2 ^ 32 by decide), show 65535 = 2 ^ 16 - 1 from rfl, Nat.and_two_pow_sub_one_eq_mod]
  omega
def hkI (x : Int32) : Nat := (((x * nI 40503) >>> (nI 5 &&& 31)) ^^^ x).toBitVec.toNat % 65536
/-- where the search for a number (one more, so that it isn't 0) begins -/
def hq (v : Nat) : Nat := hkI (nI (v - 1))
/-- what the table says: the number at a place, one more; 0 where there is none -/
def tbT (tbl : Nat → Nat) (ks : List Nat) (a : Nat) : Nat := if tbl a = 0 then 0 else ks.getD (tbl a - 1) 0 + 1
def tbIs (d : xD) (tbl : Nat → Nat) (ks : List Nat) : Prop := (∀ i, i < ks.length → d.1 251 i = nI (ks.getD i 0) ∧ ks.getD i 0 < 244140625) ∧ (∀ a, a < 65536 → d.1 253 a = nI (tbl a) ∧ tbl a ≤ ks.length) ∧ tabOk 65536 hq (tbT tbl ks) (ks.map (· + 1)) ∧ ks.length ≤ 15625
theorem tbIs.fr {S : List Nat} {d d' : xD} {tbl : Nat → Nat} {ks : List Nat} (h : tbIs d tbl ks) (hc : chg S d d') (h1 : 251 ∉ S) (h2 : 253 ∉ S) : tbIs d' tbl ks := ⟨fun i hi => by rw [(hc 251 h1).1]; exact h.1 i hi, fun a ha => by rw [(hc 253 h2).1]; exact h.2.1 a ha, h.2.2⟩
/-- the place that a search ends at -/
def endAt (tbl : Nat → Nat) (ks : List Nat) (key i : Nat) : Prop := i < 65536 ∧ (tbT tbl ks ((hq (key + 1) + i) % 65536) = 0 ∨ tbT tbl ks ((hq (key + 1) + i) % 65536) = key + 1) ∧ ∀ i', i' < i → tbT tbl ks ((hq (key + 1) + i') % 65536) ≠ 0 ∧ tbT tbl ks ((hq (key + 1) + i') % 65536) ≠ key + 1
section MOD
variable {l : Launch} {W : xW} {dep : Nat} {d : xD} {bs : List Nat} {σ : St} {x y z w : Int32} {n n2 n3 k : Nat} {fb : Nat → Nat}
theorem s_X12_power25 {p : Nat} (hp : p < 6) : mSpecI l W mX12_power25 dep [.int (nI p)] d (fun r d' => r = nI (25 ^ p) ∧ d' = d) := by
  refine m_spec RX12 [some (.int (nI p)), none, none] rfl (by decide +kernel) rfl rfl (fun K hR => ?_)
  have loop : ∀ i, i ≤ p → mG W K cX12_power25 RX12 dep d 4 [some (.int (nI p)), some (.int (nI (25 ^ i))), some (.int (nI i))] [] := x_up _ (fun i hi ih => by
    by_cases hin : i < p
    · have ih2 := ih hin
      rw [Nat.pow_succ, Nat.mul_comm] at ih2
      refine m_iload_n dX12_power25_4 rfl ?_
      refine m_iload_n dX12_power25_5 rfl ?_
      first | refine m_icmp_geN 20 dX12_power25_6 (by decide) (by omega) (by omega) (fun c6 => by exfalso; omega) (fun c6 => ?_) | refine m_icmp_ge 20 dX12_power25_6 (by decide) (fun c6 => by exfalso; omega) (fun c6 => ?_)
      refine m_bipushN 25 dX12_power25_9 (by decide) ?_
      refine m_iload_n dX12_power25_11 rfl ?_
      first | refine m_imulN dX12_power25_12 ?_ | refine m_imul dX12_power25_12 ?_
      refine m_istore_n dX12_power25_13 (Nat.le_of_ble_eq_true rfl) rfl ?_
      first | refine m_iincN 1 dX12_power25_14 (by decide) rfl rfl ?_ | refine m_iinc dX12_power25_14 rfl rfl ?_
      refine m_goto 4 dX12_power25_17 (by decide) ?_
      exact ih2
    · have e6 : i = p := by omega
      subst e6
      refine m_iload_n dX12_power25_4 rfl ?_
      refine m_iload_n dX12_power25_5 rfl ?_
      first | refine m_icmp_geN 20 dX12_power25_6 (by decide) (by omega) (by omega) (fun c6 => ?_) (fun c6 => by exfalso; omega) | refine m_icmp_ge 20 dX12_power25_6 (by decide) (fun c6 => ?_) (fun c6 => by exfalso; omega)
      refine m_iload_n dX12_power25_20 rfl ?_
      exact m_iret (ty := .int) hR dX12_power25_21 (⟨rfl, rfl⟩)
    )
  refine m_iconstN 1 dX12_power25_0 (by decide) ?_
  refine m_istore_n dX12_power25_1 (Nat.le_of_ble_eq_true rfl) rfl ?_
  refine m_iconstN 0 dX12_power25_2 (by decide) ?_
  refine m_istore_n dX12_power25_3 (Nat.le_of_ble_eq_true rfl) rfl ?_
  exact loop 0 (Nat.zero_le _)
theorem s_X12_placeOf {tbl : Nat → Nat} {ks : List Nat} {key i : Nat} (h : tbIs d tbl ks) (hk : key < 244140625) (he : endAt tbl ks key i) : mSpecI l W mX12_placeOf dep [.ref (xad W 240), .int (nI key)] d (fun r d' => r = nI ((hq (key + 1) + i) % 65536) ∧ d' = d) := by
  have hI1 : isI W 251 20001 := ⟨by decide, by decide, fun _ => rfl⟩
  have hI2 : isI W 253 65536 := ⟨by decide, by decide, fun _ => rfl⟩
  have hlen := h.2.2.2
  have hq0 : hq (key + 1) < 65536 := Nat.mod_lt _ (by decide)
  refine m_spec RX12 [some (.ref (xad W 240)), some (.int (nI key)), none] rfl (by decide +kernel) rfl rfl (fun K hR => ?_)
  have loop : ∀ j, j ≤ i → mG W K cX12_placeOf RX12 dep d 12 [some (.ref (xad W 240)), some (.int (nI key)), some (.int (nI ((hq (key + 1) + j) % 65536)))] [] := x_up _ (fun j hj ih => by
    have hm : (hq (key + 1) + j) % 65536 < 65536 := Nat.mod_lt _ (by decide)
    have ht := h.2.1 _ hm
    by_cases hji : j < i
    · have ih2 := ih hji
      have h2 := he.2.2 j hji
      generalize hpl : (hq (key + 1) + j) % 65536 = pl at *
      have h0 : tbl pl ≠ 0 := fun z => h2.1 (if_pos z)
      have hT : tbT tbl ks pl = ks.getD (tbl pl - 1) 0 + 1 := if_neg h0
      have hkm := h.1 (tbl pl - 1) (by omega)
      have hne : ks.getD (tbl pl - 1) 0 ≠ key := fun z => h2.2 (by rw [hT, z])
      refine m_aload_n dX12_placeOf_12 rfl ?_
      refine m_get fl_X12_53 (by decide) rfl rfl dX12_placeOf_13 ?_
      refine m_iload_n dX12_placeOf_16 rfl ?_
      refine m_iald (by first | exact ⟨by decide, by decide, fun _ => rfl⟩ | exact isI_arr _ (by omega) | exact isI_mv _ (by omega) | exact isI_ne _ (by omega)) (by omega) dX12_placeOf_17 ?_
      refine m_eqi (ht.1) ?_
      first | refine m_if_eqN 48 dX12_placeOf_18 (by decide) (by omega) (fun c18 => by exfalso; omega) (fun c18 => ?_) | refine m_if_eq 48 dX12_placeOf_18 (by decide) (fun c18 => by exfalso; omega) (fun c18 => ?_)
      refine m_aload_n dX12_placeOf_21 rfl ?_
      refine m_get fl_X12_45 (by decide) rfl rfl dX12_placeOf_22 ?_
      refine m_aload_n dX12_placeOf_25 rfl ?_
      refine m_get fl_X12_53 (by decide) rfl rfl dX12_placeOf_26 ?_
      refine m_iload_n dX12_placeOf_29 rfl ?_
      refine m_iald (by first | exact ⟨by decide, by decide, fun _ => rfl⟩ | exact isI_arr _ (by omega) | exact isI_mv _ (by omega) | exact isI_ne _ (by omega)) (by omega) dX12_placeOf_30 ?_
      refine m_eqi (ht.1) ?_
      refine m_iconstN 1 dX12_placeOf_31 (by decide) ?_
      first | refine m_isubN dX12_placeOf_32 (by omega) ?_ | refine m_isub dX12_placeOf_32 ?_
      refine m_iald (by first | exact ⟨by decide, by decide, fun _ => rfl⟩ | exact isI_arr _ (by omega) | exact isI_mv _ (by omega) | exact isI_ne _ (by omega)) (by omega) dX12_placeOf_33 ?_
      refine m_eqi (hkm.1) ?_
      refine m_iload_n dX12_placeOf_34 rfl ?_
      first | refine m_icmp_eqN 48 dX12_placeOf_35 (by decide) (by omega) (by omega) (fun c35 => by exfalso; omega) (fun c35 => ?_) | refine m_icmp_eq 48 dX12_placeOf_35 (by decide) (fun c35 => by exfalso; omega) (fun c35 => ?_)
      refine m_iload_n dX12_placeOf_38 rfl ?_
      refine m_iconstN 1 dX12_placeOf_39 (by decide) ?_
      first | refine m_iaddN dX12_placeOf_40 ?_ | refine m_iadd dX12_placeOf_40 ?_
      refine m_ldc ct_X12_202 dX12_placeOf_41 ?_
      refine m_eqi (y := nI 65535) (by decide +kernel) ?_
      refine m_iand dX12_placeOf_43 ?_
      refine m_eqi ((by rw [nI_and, show 65535 = 2 ^ 16 - 1 from rfl, Nat.and_two_pow_sub_one_eq_mod, ← hpl]; congr 1; omega : _ = nI ((hq (key + 1) + (j + 1)) % 65536))) ?_
      refine m_istore_n dX12_placeOf_44 (Nat.le_of_ble_eq_true rfl) rfl ?_
      refine m_goto 12 dX12_placeOf_45 (by decide) ?_
      exact ih2
    · have e6 : j = i := by omega
      subst e6
      generalize hpl : (hq (key + 1) + j) % 65536 = pl at *
      have h2 := he.2.1
      rw [hpl] at h2
      by_cases h0 : tbl pl = 0
      · skip
        refine m_aload_n dX12_placeOf_12 rfl ?_
        refine m_get fl_X12_53 (by decide) rfl rfl dX12_placeOf_13 ?_
        refine m_iload_n dX12_placeOf_16 rfl ?_
        refine m_iald (by first | exact ⟨by decide, by decide, fun _ => rfl⟩ | exact isI_arr _ (by omega) | exact isI_mv _ (by omega) | exact isI_ne _ (by omega)) (by omega) dX12_placeOf_17 ?_
        refine m_eqi (ht.1) ?_
        first | refine m_if_eqN 48 dX12_placeOf_18 (by decide) (by omega) (fun c18 => ?_) (fun c18 => by exfalso; omega) | refine m_if_eq 48 dX12_placeOf_18 (by decide) (fun c18 => ?_) (fun c18 => by exfalso; omega)
        refine m_iload_n dX12_placeOf_48 rfl ?_
        exact m_iret (ty := .int) hR dX12_placeOf_49 (⟨rfl, rfl⟩)
      · have hT : tbT tbl ks pl = ks.getD (tbl pl - 1) 0 + 1 := if_neg h0
        have hkm := h.1 (tbl pl - 1) (by omega)
        have hne : ks.getD (tbl pl - 1) 0 = key := by omega
        refine m_aload_n dX12_placeOf_12 rfl ?_
        refine m_get fl_X12_53 (by decide) rfl rfl dX12_placeOf_13 ?_
        refine m_iload_n dX12_placeOf_16 rfl ?_
        refine m_iald (by first | exact ⟨by decide, by decide, fun _ => rfl⟩ | exact isI_arr _ (by omega) | exact isI_mv _ (by omega) | exact isI_ne _ (by omega)) (by omega) dX12_placeOf_17 ?_
        refine m_eqi (ht.1) ?_
        first | refine m_if_eqN 48 dX12_placeOf_18 (by decide) (by omega) (fun c18 => by exfalso; omega) (fun c18 => ?_) | refine m_if_eq 48 dX12_placeOf_18 (by decide) (fun c18 => by exfalso; omega) (fun c18 => ?_)
        refine m_aload_n dX12_placeOf_21 rfl ?_
        refine m_get fl_X12_45 (by decide) rfl rfl dX12_placeOf_22 ?_
        refine m_aload_n dX12_placeOf_25 rfl ?_
        refine m_get fl_X12_53 (by decide) rfl rfl dX12_placeOf_26 ?_
        refine m_iload_n dX12_placeOf_29 rfl ?_
        refine m_iald (by first | exact ⟨by decide, by decide, fun _ => rfl⟩ | exact isI_arr _ (by omega) | exact isI_mv _ (by omega) | exact isI_ne _ (by omega)) (by omega) dX12_placeOf_30 ?_
        refine m_eqi (ht.1) ?_
        refine m_iconstN 1 dX12_placeOf_31 (by decide) ?_
        first | refine m_isubN dX12_placeOf_32 (by omega) ?_ | refine m_isub dX12_placeOf_32 ?_
        refine m_iald (by first | exact ⟨by decide, by decide, fun _ => rfl⟩ | exact isI_arr _ (by omega) | exact isI_mv _ (by omega) | exact isI_ne _ (by omega)) (by omega) dX12_placeOf_33 ?_
        refine m_eqi (hkm.1) ?_
        refine m_iload_n dX12_placeOf_34 rfl ?_
        first | refine m_icmp_eqN 48 dX12_placeOf_35 (by decide) (by omega) (by omega) (fun c35 => ?_) (fun c35 => by exfalso; omega) | refine m_icmp_eq 48 dX12_placeOf_35 (by decide) (fun c35 => ?_) (fun c35 => by exfalso; omega)
        refine m_iload_n dX12_placeOf_48 rfl ?_
        exact m_iret (ty := .int) hR dX12_placeOf_49 (⟨rfl, rfl⟩)
    )
  have hst : (hq (key + 1) + 0) % 65536 = hkI (nI key) := by
    rw [Nat.add_zero, Nat.mod_eq_of_lt hq0]
    unfold hq
    rw [Nat.add_sub_cancel]
  refine m_iload_n dX12_placeOf_0 rfl ?_
  refine m_ldc ct_X12_201 dX12_placeOf_1 ?_
  refine m_eqi (y := nI 40503) (by decide +kernel) ?_
  refine m_imul dX12_placeOf_3 ?_
  refine m_iconstN 5 dX12_placeOf_4 (by decide) ?_
  refine m_ishr dX12_placeOf_5 ?_
  refine m_iload_n dX12_placeOf_6 rfl ?_
  refine m_ixor dX12_placeOf_7 ?_
  refine m_ldc ct_X12_202 dX12_placeOf_8 ?_
  refine m_eqi (y := nI 65535) (by decide +kernel) ?_
  refine m_iand dX12_placeOf_10 ?_
  refine m_eqi ((by rw [and16, hst]; rfl : _ = nI ((hq (key + 1) + 0) % 65536))) ?_
  refine m_istore_n dX12_placeOf_11 (Nat.le_of_ble_eq_true rfl) rfl ?_
  exact loop 0 (Nat.zero_le _)
theorem s_X12_mayCome {xs : List Nat} {v : Nat → Nat} {L : Nat} (hl : moLet d k fb) (hx : ∀ x ∈ xs, x < k) (h24 : xs.length ≤ 24) (ha : arrB d 246 xs) (ht : ∀ q, q < 6 → d.1 254 q = nI (v q) ∧ v q ≤ 24) (hr : ∀ q, q < 6 → d.1 255 q = nI 0) (hL : L < 6) : mSpecI l W mX12_mayCome (dep + 1) [.ref (xad W 240), .int (nI xs.length), .int (nI L)] d (fun r d' => r = (if opn (bw k fb) xs v L = true then 1 else 0) ∧ chg [255] d d') := by
  have hk := hl.2.2.2.1
  have hf := hl.2.2
  have hI6 : isI W 246 48 := ⟨by decide, by decide, fun _ => rfl⟩
  have hI4 : isI W 254 6 := ⟨by decide, by decide, fun _ => rfl⟩
  have hI5 : isI W 255 6 := ⟨by decide, by decide, fun _ => rfl⟩
  have hcl : ∀ i q, (xs.take i).count q ≤ 24 := fun i q => Nat.le_trans List.count_le_length (by rw [List.length_take]; omega)
  have htc : ∀ i j q, i ≤ j → (xs.take i).count q ≤ (xs.take j).count q := fun i j q hij => List.Sublist.count_le _ (List.take_sublist_take_left hij)
  refine m_spec RX12 [some (.ref (xad W 240)), some (.int (nI xs.length)), some (.int (nI L)), none, none] rfl (by decide +kernel) rfl rfl (fun K hR => ?_)
  have loop : ∀ i, i ≤ xs.length → ∀ d1, (∀ q, q < 6 → q ≠ L → (bw k fb L).testBit q = true → d1.1 255 q = nI ((xs.take i).count q) ∧ (xs.take i).count q ≤ v q) → (xs.take i).count L ≤ v L → chg [255] d d1 → mG W K cX12_mayCome RX12 (dep + 1) d1 5 [some (.ref (xad W 240)), some (.int (nI xs.length)), some (.int (nI L)), some (.int (nI ((xs.take i).count L))), some (.int (nI i))] [] := x_up _ (fun i hi ih d1 g1 g2 g3 => by
    have hl1 := hl.fr g3 (by simp) (by simp)
    have h254 := (g3 254 (by simp)).1
    have hvl := ht L hL
    have hcL := hcl i L
    by_cases hin : i < xs.length
    · have hxk := hx _ (List.getElem_mem hin)
      have hxi : xs[i] < 6 := by omega
      have hat : d1.1 246 i = nI xs[i] := by rw [(g3 246 (by simp)).1, ha i hin, getD_at hin]
      have hcs : ∀ q, (xs.take (i + 1)).count q = (xs.take i).count q + (if xs[i] = q then 1 else 0) := fun q => by
        rw [take_s hin, List.count_append, List.count_singleton]
        by_cases e : xs[i] = q <;> simp [e]
      have hBx := bw_not hf hL hxk
      by_cases hxL : xs[i] = L
      · have hcs1 := hcs L
        rw [if_pos hxL] at hcs1
        by_cases hlt : (xs.take i).count L + 1 ≤ v L
        · have ih2 := ih hin d1 (fun q hq hne hb => by rw [hcs q, if_neg (fun z => hne (z.symm.trans hxL)), Nat.add_zero]; exact g1 q hq hne hb) (by rw [hcs1]; exact hlt) g3
          rw [hcs1] at ih2
          refine m_iload dX12_mayCome_5 rfl ?_
          refine m_iload_n dX12_mayCome_7 rfl ?_
          first | refine m_icmp_geN 103 dX12_mayCome_8 (by decide) (by omega) (by omega) (fun c8 => by exfalso; omega) (fun c8 => ?_) | refine m_icmp_ge 103 dX12_mayCome_8 (by decide) (fun c8 => by exfalso; omega) (fun c8 => ?_)
          refine m_aload_n dX12_mayCome_11 rfl ?_
          refine m_get fl_X12_29 (by decide) rfl rfl dX12_mayCome_12 ?_
          refine m_iload dX12_mayCome_15 rfl ?_
          refine m_iald (by first | exact ⟨by decide, by decide, fun _ => rfl⟩ | exact isI_arr _ (by omega) | exact isI_mv _ (by omega) | exact isI_ne _ (by omega)) (by omega) dX12_mayCome_17 ?_
          refine m_eqi (hat) ?_
          refine m_iload_n dX12_mayCome_18 rfl ?_
          first | refine m_icmp_neN 37 dX12_mayCome_19 (by decide) (by omega) (by omega) (fun c19 => by exfalso; omega) (fun c19 => ?_) | refine m_icmp_ne 37 dX12_mayCome_19 (by decide) (fun c19 => by exfalso; omega) (fun c19 => ?_)
          first | refine m_iincN 1 dX12_mayCome_22 (by decide) rfl rfl ?_ | refine m_iinc dX12_mayCome_22 rfl rfl ?_
          refine m_iload_n dX12_mayCome_25 rfl ?_
          refine m_aload_n dX12_mayCome_26 rfl ?_
          refine m_get fl_X12_56 (by decide) rfl rfl dX12_mayCome_27 ?_
          refine m_iload_n dX12_mayCome_30 rfl ?_
          refine m_iald (by first | exact ⟨by decide, by decide, fun _ => rfl⟩ | exact isI_arr _ (by omega) | exact isI_mv _ (by omega) | exact isI_ne _ (by omega)) (by omega) dX12_mayCome_31 ?_
          refine m_eqi ((by rw [h254]; exact hvl.1 : _ = nI (v L))) ?_
          first | refine m_icmp_leN 97 dX12_mayCome_32 (by decide) (by omega) (by omega) (fun c32 => ?_) (fun c32 => by exfalso; omega) | refine m_icmp_le 97 dX12_mayCome_32 (by decide) (fun c32 => ?_) (fun c32 => by exfalso; omega)
          first | refine m_iincN 1 dX12_mayCome_97 (by decide) rfl rfl ?_ | refine m_iinc dX12_mayCome_97 rfl rfl ?_
          refine m_goto 5 dX12_mayCome_100 (by decide) ?_
          exact ih2
        · have hop : opn (bw k fb) xs v L = true := opn_iff.mpr ⟨i, hin, hxL, by omega, fun q hq hb => by
            by_cases e : q = L
            · rw [e]; exact g2
            · exact (g1 q hq e hb).2⟩
          refine m_iload dX12_mayCome_5 rfl ?_
          refine m_iload_n dX12_mayCome_7 rfl ?_
          first | refine m_icmp_geN 103 dX12_mayCome_8 (by decide) (by omega) (by omega) (fun c8 => by exfalso; omega) (fun c8 => ?_) | refine m_icmp_ge 103 dX12_mayCome_8 (by decide) (fun c8 => by exfalso; omega) (fun c8 => ?_)
          refine m_aload_n dX12_mayCome_11 rfl ?_
          refine m_get fl_X12_29 (by decide) rfl rfl dX12_mayCome_12 ?_
          refine m_iload dX12_mayCome_15 rfl ?_
          refine m_iald (by first | exact ⟨by decide, by decide, fun _ => rfl⟩ | exact isI_arr _ (by omega) | exact isI_mv _ (by omega) | exact isI_ne _ (by omega)) (by omega) dX12_mayCome_17 ?_
          refine m_eqi (hat) ?_
          refine m_iload_n dX12_mayCome_18 rfl ?_
          first | refine m_icmp_neN 37 dX12_mayCome_19 (by decide) (by omega) (by omega) (fun c19 => by exfalso; omega) (fun c19 => ?_) | refine m_icmp_ne 37 dX12_mayCome_19 (by decide) (fun c19 => by exfalso; omega) (fun c19 => ?_)
          first | refine m_iincN 1 dX12_mayCome_22 (by decide) rfl rfl ?_ | refine m_iinc dX12_mayCome_22 rfl rfl ?_
          refine m_iload_n dX12_mayCome_25 rfl ?_
          refine m_aload_n dX12_mayCome_26 rfl ?_
          refine m_get fl_X12_56 (by decide) rfl rfl dX12_mayCome_27 ?_
          refine m_iload_n dX12_mayCome_30 rfl ?_
          refine m_iald (by first | exact ⟨by decide, by decide, fun _ => rfl⟩ | exact isI_arr _ (by omega) | exact isI_mv _ (by omega) | exact isI_ne _ (by omega)) (by omega) dX12_mayCome_31 ?_
          refine m_eqi ((by rw [h254]; exact hvl.1 : _ = nI (v L))) ?_
          first | refine m_icmp_leN 97 dX12_mayCome_32 (by decide) (by omega) (by omega) (fun c32 => by exfalso; omega) (fun c32 => ?_) | refine m_icmp_le 97 dX12_mayCome_32 (by decide) (fun c32 => by exfalso; omega) (fun c32 => ?_)
          refine m_iconstN 1 dX12_mayCome_35 (by decide) ?_
          exact m_iret (ty := .boolean) hR dX12_mayCome_36 (⟨by rw [if_pos hop]; rfl, g3⟩)
      · have hcs1 := hcs L
        rw [if_neg hxL, Nat.add_zero] at hcs1
        cases hfx : (fb xs[i]).testBit L with
        | true =>
          have hnb : (bw k fb L).testBit xs[i] = false := by rw [hBx, hfx]; rfl
          have ih2 := ih hin d1 (fun q hq hne hb => by rw [hcs q, if_neg (fun z => by rw [z, hb] at hnb; cases hnb), Nat.add_zero]; exact g1 q hq hne hb) (by rw [hcs1]; exact g2) g3
          rw [hcs1] at ih2
          refine m_iload dX12_mayCome_5 rfl ?_
          refine m_iload_n dX12_mayCome_7 rfl ?_
          first | refine m_icmp_geN 103 dX12_mayCome_8 (by decide) (by omega) (by omega) (fun c8 => by exfalso; omega) (fun c8 => ?_) | refine m_icmp_ge 103 dX12_mayCome_8 (by decide) (fun c8 => by exfalso; omega) (fun c8 => ?_)
          refine m_aload_n dX12_mayCome_11 rfl ?_
          refine m_get fl_X12_29 (by decide) rfl rfl dX12_mayCome_12 ?_
          refine m_iload dX12_mayCome_15 rfl ?_
          refine m_iald (by first | exact ⟨by decide, by decide, fun _ => rfl⟩ | exact isI_arr _ (by omega) | exact isI_mv _ (by omega) | exact isI_ne _ (by omega)) (by omega) dX12_mayCome_17 ?_
          refine m_eqi (hat) ?_
          refine m_iload_n dX12_mayCome_18 rfl ?_
          first | refine m_icmp_neN 37 dX12_mayCome_19 (by decide) (by omega) (by omega) (fun c19 => ?_) (fun c19 => by exfalso; omega) | refine m_icmp_ne 37 dX12_mayCome_19 (by decide) (fun c19 => ?_) (fun c19 => by exfalso; omega)
          refine m_aload_n dX12_mayCome_37 rfl ?_
          refine m_aload_n dX12_mayCome_38 rfl ?_
          refine m_get fl_X12_29 (by decide) rfl rfl dX12_mayCome_39 ?_
          refine m_iload dX12_mayCome_42 rfl ?_
          refine m_iald (by first | exact ⟨by decide, by decide, fun _ => rfl⟩ | exact isI_arr _ (by omega) | exact isI_mv _ (by omega) | exact isI_ne _ (by omega)) (by omega) dX12_mayCome_44 ?_
          refine m_eqi (hat) ?_
          refine m_iload_n dX12_mayCome_45 rfl ?_
          refine m_callVIp (s_X12_areFree hl1 (p := xs[i]) (q := L) hxi hL) cv_X12_168 dX12_mayCome_46 ?_
          refine m_eqi ((if_pos hfx : _ = (1 : Int32))) ?_
          refine m_if_ne 97 dX12_mayCome_49 (by decide) (fun c49 => ?_) (fun c49 => by exfalso; exact c49 (by decide))
          first | refine m_iincN 1 dX12_mayCome_97 (by decide) rfl rfl ?_ | refine m_iinc dX12_mayCome_97 rfl rfl ?_
          refine m_goto 5 dX12_mayCome_100 (by decide) ?_
          exact ih2
        | false =>
          have hbx : (bw k fb L).testBit xs[i] = true := by rw [hBx, hfx]; rfl
          have g1x := g1 xs[i] hxi hxL hbx
          have hvx := ht xs[i] hxi
          have hcx := hcl i xs[i]
          by_cases hlt : (xs.take i).count xs[i] + 1 ≤ v xs[i]
          · have ih2 := ih hin (seI d1 255 xs[i] (nI ((xs.take i).count xs[i] + 1))) (fun q hq hne hb => by
              rw [hcs q]
              by_cases e : q = xs[i]
              · rw [e, if_pos rfl]; exact ⟨se_s _ _ _ _, hlt⟩
              · rw [if_neg (fun z => e z.symm), Nat.add_zero]; exact ⟨se_e2 (g1 q hq hne hb).1 e, (g1 q hq hne hb).2⟩) (by rw [hcs1]; exact g2) (g3.se (by simp))
            rw [hcs1] at ih2
            refine m_iload dX12_mayCome_5 rfl ?_
            refine m_iload_n dX12_mayCome_7 rfl ?_
            first | refine m_icmp_geN 103 dX12_mayCome_8 (by decide) (by omega) (by omega) (fun c8 => by exfalso; omega) (fun c8 => ?_) | refine m_icmp_ge 103 dX12_mayCome_8 (by decide) (fun c8 => by exfalso; omega) (fun c8 => ?_)
            refine m_aload_n dX12_mayCome_11 rfl ?_
            refine m_get fl_X12_29 (by decide) rfl rfl dX12_mayCome_12 ?_
            refine m_iload dX12_mayCome_15 rfl ?_
            refine m_iald (by first | exact ⟨by decide, by decide, fun _ => rfl⟩ | exact isI_arr _ (by omega) | exact isI_mv _ (by omega) | exact isI_ne _ (by omega)) (by omega) dX12_mayCome_17 ?_
            refine m_eqi (hat) ?_
            refine m_iload_n dX12_mayCome_18 rfl ?_
            first | refine m_icmp_neN 37 dX12_mayCome_19 (by decide) (by omega) (by omega) (fun c19 => ?_) (fun c19 => by exfalso; omega) | refine m_icmp_ne 37 dX12_mayCome_19 (by decide) (fun c19 => ?_) (fun c19 => by exfalso; omega)
            refine m_aload_n dX12_mayCome_37 rfl ?_
            refine m_aload_n dX12_mayCome_38 rfl ?_
            refine m_get fl_X12_29 (by decide) rfl rfl dX12_mayCome_39 ?_
            refine m_iload dX12_mayCome_42 rfl ?_
            refine m_iald (by first | exact ⟨by decide, by decide, fun _ => rfl⟩ | exact isI_arr _ (by omega) | exact isI_mv _ (by omega) | exact isI_ne _ (by omega)) (by omega) dX12_mayCome_44 ?_
            refine m_eqi (hat) ?_
            refine m_iload_n dX12_mayCome_45 rfl ?_
            refine m_callVIp (s_X12_areFree hl1 (p := xs[i]) (q := L) hxi hL) cv_X12_168 dX12_mayCome_46 ?_
            refine m_eqi ((if_neg (by rw [hfx]; decide) : _ = (0 : Int32))) ?_
            refine m_if_ne 97 dX12_mayCome_49 (by decide) (fun c49 => by exfalso; exact c49 rfl) (fun c49 => ?_)
            refine m_aload_n dX12_mayCome_52 rfl ?_
            refine m_get fl_X12_59 (by decide) rfl rfl dX12_mayCome_53 ?_
            refine m_aload_n dX12_mayCome_56 rfl ?_
            refine m_get fl_X12_29 (by decide) rfl rfl dX12_mayCome_57 ?_
            refine m_iload dX12_mayCome_60 rfl ?_
            refine m_iald (by first | exact ⟨by decide, by decide, fun _ => rfl⟩ | exact isI_arr _ (by omega) | exact isI_mv _ (by omega) | exact isI_ne _ (by omega)) (by omega) dX12_mayCome_62 ?_
            refine m_eqi (hat) ?_
            first | refine m_dup2_2 dX12_mayCome_63 rfl ?_ | refine m_dup2_11 dX12_mayCome_63 rfl rfl ?_
            refine m_iald (by first | exact ⟨by decide, by decide, fun _ => rfl⟩ | exact isI_arr _ (by omega) | exact isI_mv _ (by omega) | exact isI_ne _ (by omega)) (by omega) dX12_mayCome_64 ?_
            refine m_eqi (g1x.1) ?_
            refine m_iconstN 1 dX12_mayCome_65 (by decide) ?_
            first | refine m_iaddN dX12_mayCome_66 ?_ | refine m_iadd dX12_mayCome_66 ?_
            refine m_iast (by first | exact ⟨by decide, by decide, fun _ => rfl⟩ | exact isI_arr _ (by omega) | exact isI_mv _ (by omega) | exact isI_ne _ (by omega)) (by omega) dX12_mayCome_67 ?_
            refine m_aload_n dX12_mayCome_68 rfl ?_
            refine m_get fl_X12_59 (by decide) rfl rfl dX12_mayCome_69 ?_
            refine m_aload_n dX12_mayCome_72 rfl ?_
            refine m_get fl_X12_29 (by decide) rfl rfl dX12_mayCome_73 ?_
            refine m_iload dX12_mayCome_76 rfl ?_
            refine m_iald (by first | exact ⟨by decide, by decide, fun _ => rfl⟩ | exact isI_arr _ (by omega) | exact isI_mv _ (by omega) | exact isI_ne _ (by omega)) (by omega) dX12_mayCome_78 ?_
            refine m_eqi ((se_e hat (by decide) : _ = nI xs[i])) ?_
            refine m_iald (by first | exact ⟨by decide, by decide, fun _ => rfl⟩ | exact isI_arr _ (by omega) | exact isI_mv _ (by omega) | exact isI_ne _ (by omega)) (by omega) dX12_mayCome_79 ?_
            refine m_eqi ((se_s _ _ _ _ : _ = nI ((xs.take i).count xs[i] + 1))) ?_
            refine m_aload_n dX12_mayCome_80 rfl ?_
            refine m_get fl_X12_56 (by decide) rfl rfl dX12_mayCome_81 ?_
            refine m_aload_n dX12_mayCome_84 rfl ?_
            refine m_get fl_X12_29 (by decide) rfl rfl dX12_mayCome_85 ?_
            refine m_iload dX12_mayCome_88 rfl ?_
            refine m_iald (by first | exact ⟨by decide, by decide, fun _ => rfl⟩ | exact isI_arr _ (by omega) | exact isI_mv _ (by omega) | exact isI_ne _ (by omega)) (by omega) dX12_mayCome_90 ?_
            refine m_eqi ((se_e hat (by decide) : _ = nI xs[i])) ?_
            refine m_iald (by first | exact ⟨by decide, by decide, fun _ => rfl⟩ | exact isI_arr _ (by omega) | exact isI_mv _ (by omega) | exact isI_ne _ (by omega)) (by omega) dX12_mayCome_91 ?_
            refine m_eqi ((se_e (by rw [h254]; exact hvx.1) (by decide) : _ = nI (v xs[i]))) ?_
            first | refine m_icmp_leN 97 dX12_mayCome_92 (by decide) (by omega) (by omega) (fun c92 => ?_) (fun c92 => by exfalso; omega) | refine m_icmp_le 97 dX12_mayCome_92 (by decide) (fun c92 => ?_) (fun c92 => by exfalso; omega)
            first | refine m_iincN 1 dX12_mayCome_97 (by decide) rfl rfl ?_ | refine m_iinc dX12_mayCome_97 rfl rfl ?_
            refine m_goto 5 dX12_mayCome_100 (by decide) ?_
            exact ih2
          · have hop : ¬ opn (bw k fb) xs v L = true := fun z => by
              obtain ⟨i', hi', z1, z2, z3⟩ := opn_iff.mp z
              have h9 : i < i' := by
                rcases Nat.lt_trichotomy i i' with e | e | e
                · exact e
                · subst e; exact absurd z1 hxL
                · exfalso
                  have a1 := htc (i' + 1) i L e
                  rw [take_s hi', List.count_append, List.count_singleton, if_pos (by rw [z1]; simp)] at a1
                  omega
              have a2 := z3 xs[i] hxi hbx
              have a3 := htc (i + 1) i' xs[i] h9
              rw [hcs, if_pos rfl] at a3
              omega
            refine m_iload dX12_mayCome_5 rfl ?_
            refine m_iload_n dX12_mayCome_7 rfl ?_
            first | refine m_icmp_geN 103 dX12_mayCome_8 (by decide) (by omega) (by omega) (fun c8 => by exfalso; omega) (fun c8 => ?_) | refine m_icmp_ge 103 dX12_mayCome_8 (by decide) (fun c8 => by exfalso; omega) (fun c8 => ?_)
            refine m_aload_n dX12_mayCome_11 rfl ?_
            refine m_get fl_X12_29 (by decide) rfl rfl dX12_mayCome_12 ?_
            refine m_iload dX12_mayCome_15 rfl ?_
            refine m_iald (by first | exact ⟨by decide, by decide, fun _ => rfl⟩ | exact isI_arr _ (by omega) | exact isI_mv _ (by omega) | exact isI_ne _ (by omega)) (by omega) dX12_mayCome_17 ?_
            refine m_eqi (hat) ?_
            refine m_iload_n dX12_mayCome_18 rfl ?_
            first | refine m_icmp_neN 37 dX12_mayCome_19 (by decide) (by omega) (by omega) (fun c19 => ?_) (fun c19 => by exfalso; omega) | refine m_icmp_ne 37 dX12_mayCome_19 (by decide) (fun c19 => ?_) (fun c19 => by exfalso; omega)
            refine m_aload_n dX12_mayCome_37 rfl ?_
            refine m_aload_n dX12_mayCome_38 rfl ?_
            refine m_get fl_X12_29 (by decide) rfl rfl dX12_mayCome_39 ?_
            refine m_iload dX12_mayCome_42 rfl ?_
            refine m_iald (by first | exact ⟨by decide, by decide, fun _ => rfl⟩ | exact isI_arr _ (by omega) | exact isI_mv _ (by omega) | exact isI_ne _ (by omega)) (by omega) dX12_mayCome_44 ?_
            refine m_eqi (hat) ?_
            refine m_iload_n dX12_mayCome_45 rfl ?_
            refine m_callVIp (s_X12_areFree hl1 (p := xs[i]) (q := L) hxi hL) cv_X12_168 dX12_mayCome_46 ?_
            refine m_eqi ((if_neg (by rw [hfx]; decide) : _ = (0 : Int32))) ?_
            refine m_if_ne 97 dX12_mayCome_49 (by decide) (fun c49 => by exfalso; exact c49 rfl) (fun c49 => ?_)
            refine m_aload_n dX12_mayCome_52 rfl ?_
            refine m_get fl_X12_59 (by decide) rfl rfl dX12_mayCome_53 ?_
            refine m_aload_n dX12_mayCome_56 rfl ?_
            refine m_get fl_X12_29 (by decide) rfl rfl dX12_mayCome_57 ?_
            refine m_iload dX12_mayCome_60 rfl ?_
            refine m_iald (by first | exact ⟨by decide, by decide, fun _ => rfl⟩ | exact isI_arr _ (by omega) | exact isI_mv _ (by omega) | exact isI_ne _ (by omega)) (by omega) dX12_mayCome_62 ?_
            refine m_eqi (hat) ?_
            first | refine m_dup2_2 dX12_mayCome_63 rfl ?_ | refine m_dup2_11 dX12_mayCome_63 rfl rfl ?_
            refine m_iald (by first | exact ⟨by decide, by decide, fun _ => rfl⟩ | exact isI_arr _ (by omega) | exact isI_mv _ (by omega) | exact isI_ne _ (by omega)) (by omega) dX12_mayCome_64 ?_
            refine m_eqi (g1x.1) ?_
            refine m_iconstN 1 dX12_mayCome_65 (by decide) ?_
            first | refine m_iaddN dX12_mayCome_66 ?_ | refine m_iadd dX12_mayCome_66 ?_
            refine m_iast (by first | exact ⟨by decide, by decide, fun _ => rfl⟩ | exact isI_arr _ (by omega) | exact isI_mv _ (by omega) | exact isI_ne _ (by omega)) (by omega) dX12_mayCome_67 ?_
            refine m_aload_n dX12_mayCome_68 rfl ?_
            refine m_get fl_X12_59 (by decide) rfl rfl dX12_mayCome_69 ?_
            refine m_aload_n dX12_mayCome_72 rfl ?_
            refine m_get fl_X12_29 (by decide) rfl rfl dX12_mayCome_73 ?_
            refine m_iload dX12_mayCome_76 rfl ?_
            refine m_iald (by first | exact ⟨by decide, by decide, fun _ => rfl⟩ | exact isI_arr _ (by omega) | exact isI_mv _ (by omega) | exact isI_ne _ (by omega)) (by omega) dX12_mayCome_78 ?_
            refine m_eqi ((se_e hat (by decide) : _ = nI xs[i])) ?_
            refine m_iald (by first | exact ⟨by decide, by decide, fun _ => rfl⟩ | exact isI_arr _ (by omega) | exact isI_mv _ (by omega) | exact isI_ne _ (by omega)) (by omega) dX12_mayCome_79 ?_
            refine m_eqi ((se_s _ _ _ _ : _ = nI ((xs.take i).count xs[i] + 1))) ?_
            refine m_aload_n dX12_mayCome_80 rfl ?_
            refine m_get fl_X12_56 (by decide) rfl rfl dX12_mayCome_81 ?_
            refine m_aload_n dX12_mayCome_84 rfl ?_
            refine m_get fl_X12_29 (by decide) rfl rfl dX12_mayCome_85 ?_
            refine m_iload dX12_mayCome_88 rfl ?_
            refine m_iald (by first | exact ⟨by decide, by decide, fun _ => rfl⟩ | exact isI_arr _ (by omega) | exact isI_mv _ (by omega) | exact isI_ne _ (by omega)) (by omega) dX12_mayCome_90 ?_
            refine m_eqi ((se_e hat (by decide) : _ = nI xs[i])) ?_
            refine m_iald (by first | exact ⟨by decide, by decide, fun _ => rfl⟩ | exact isI_arr _ (by omega) | exact isI_mv _ (by omega) | exact isI_ne _ (by omega)) (by omega) dX12_mayCome_91 ?_
            refine m_eqi ((se_e (by rw [h254]; exact hvx.1) (by decide) : _ = nI (v xs[i]))) ?_
            first | refine m_icmp_leN 97 dX12_mayCome_92 (by decide) (by omega) (by omega) (fun c92 => by exfalso; omega) (fun c92 => ?_) | refine m_icmp_le 97 dX12_mayCome_92 (by decide) (fun c92 => by exfalso; omega) (fun c92 => ?_)
            refine m_iconstN 0 dX12_mayCome_95 (by decide) ?_
            exact m_iret (ty := .boolean) hR dX12_mayCome_96 (⟨by rw [if_neg hop]; rfl, g3.se (by simp)⟩)
    · have e6 : i = xs.length := by omega
      have hop : ¬ opn (bw k fb) xs v L = true := fun z => by
        obtain ⟨i', hi', z1, z2, z3⟩ := opn_iff.mp z
        have a1 := htc (i' + 1) i L (by omega)
        rw [take_s hi', List.count_append, List.count_singleton, if_pos (by rw [z1]; simp)] at a1
        omega
      refine m_iload dX12_mayCome_5 rfl ?_
      refine m_iload_n dX12_mayCome_7 rfl ?_
      first | refine m_icmp_geN 103 dX12_mayCome_8 (by decide) (by omega) (by omega) (fun c8 => ?_) (fun c8 => by exfalso; omega) | refine m_icmp_ge 103 dX12_mayCome_8 (by decide) (fun c8 => ?_) (fun c8 => by exfalso; omega)
      refine m_iconstN 0 dX12_mayCome_103 (by decide) ?_
      exact m_iret (ty := .boolean) hR dX12_mayCome_104 (⟨by rw [if_neg hop]; rfl, g3⟩)
    )
  refine m_iconstN 0 dX12_mayCome_0 (by decide) ?_
  refine m_istore_n dX12_mayCome_1 (Nat.le_of_ble_eq_true rfl) rfl ?_
  refine m_iconstN 0 dX12_mayCome_2 (by decide) ?_
  refine m_istore dX12_mayCome_3 (Nat.le_of_ble_eq_true rfl) rfl ?_
  exact loop 0 (Nat.zero_le _) d (fun q hq _ _ => ⟨by rw [hr q hq]; rfl, Nat.zero_le _⟩) (Nat.zero_le _) chg.rf
end MOD
