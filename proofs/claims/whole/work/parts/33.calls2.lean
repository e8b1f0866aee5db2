/-! class SwapSteps: more calls -/
theorem i32 (y : Int32) : (∃ m, m < 2 ^ 31 ∧ y = nI m) ∨ y < 0 := by
  by_cases h : 0 ≤ y.toInt
  · refine Or.inl ⟨y.toInt.toNat, ?_, ?_⟩
    · have := y.toInt_lt
      omega
    · apply Int32.toInt_inj.mp
      have := y.toInt_lt
      rw [nI_toInt (by omega)]
      omega
  · refine Or.inr (Int32.lt_iff_toInt_lt.mpr ?_)
    have h0 : (0 : Int32).toInt = 0 := by decide
    rw [h0]; omega
section CAL
variable {l : Launch} {W : xW} {dep : Nat} {d : xD} {bs : List Nat} {σ : St} {x : Int32} {n : Nat}
theorem s_X11_placeL (hx : hN x = some n) (hs : stIs d σ) (hl : ¬ (σ.2.2 n).length ≤ 20) : mSpecI l W mX11_place (dep + 1) [.ref (xad W 0), .int x] d (fun r d' => r = -3 ∧ d' = d) := by
  obtain ⟨hn, rfl⟩ := hN_some hx
  have hn13 : n < 13 := by omega
  have h24 := (hs.2 n hn).1.1
  refine m_spec RX11 [some (.ref (xad W 0)), some (.int (nI n)), none] rfl (by decide +kernel) rfl rfl (fun K hR => ?_)
  refine m_aload_n dX11_place_0 rfl ?_
  refine m_iload_n dX11_place_1 rfl ?_
  refine m_callVRp (s_X11_heapAt hn) cv_X11_136 dX11_place_2 ?_
  refine m_astore_n dX11_place_5 (Nat.le_of_ble_eq_true rfl) rfl ?_
  refine m_aload_n dX11_place_6 rfl ?_
  refine m_ifnonnull 13 dX11_place_7 (by decide) ?_
  refine m_aload_n dX11_place_13 rfl ?_
  refine m_callVIp (s_X9_length hn13 (hs.2 n hn).1) cv_X11_142 dX11_place_14 ?_
  refine m_bipushN 20 dX11_place_17 (by decide) ?_
  first | refine m_icmp_leN 25 dX11_place_19 (by decide) (by omega) (by omega) (fun c19 => by exfalso; omega) (fun c19 => ?_) | refine m_icmp_le 25 dX11_place_19 (by decide) (fun c19 => by exfalso; omega) (fun c19 => ?_)
  refine m_bipush (v := -3) dX11_place_22 (by decide) ?_
  exact m_iret (ty := .int) hR dX11_place_24 (⟨rfl, rfl⟩)
theorem s_X11_place (hx : hN x = some n) (hs : stIs d σ) (hl : (σ.2.2 n).length ≤ 20) : mSpecI l W mX11_place (dep + 6) [.ref (xad W 0), .int x] d (fun r d' => r = nI (rnk σ.1 σ.2.1 0 (leastR (bw σ.1 σ.2.1) (σ.2.2 n)) % 1000000007) ∧ chg ([9, 22, 8, 21] ++ folC) d d') := by
  obtain ⟨hn, rfl⟩ := hN_some hx
  have hn13 : n < 13 := by omega
  have hb := bw_ok hs.1.2.2 (hs.2 n hn).2
  refine m_spec RX11 [some (.ref (xad W 0)), some (.int (nI n)), none] rfl (by decide +kernel) rfl rfl (fun K hR => ?_)
  refine m_aload_n dX11_place_0 rfl ?_
  refine m_iload_n dX11_place_1 rfl ?_
  refine m_callVRp (s_X11_heapAt hn) cv_X11_136 dX11_place_2 ?_
  refine m_astore_n dX11_place_5 (Nat.le_of_ble_eq_true rfl) rfl ?_
  refine m_aload_n dX11_place_6 rfl ?_
  refine m_ifnonnull 13 dX11_place_7 (by decide) ?_
  refine m_aload_n dX11_place_13 rfl ?_
  refine m_callVIp (s_X9_length hn13 (hs.2 n hn).1) cv_X11_142 dX11_place_14 ?_
  refine m_bipushN 20 dX11_place_17 (by decide) ?_
  first | refine m_icmp_leN 25 dX11_place_19 (by decide) (by omega) (by omega) (fun c19 => ?_) (fun c19 => by exfalso; omega) | refine m_icmp_le 25 dX11_place_19 (by decide) (fun c19 => ?_) (fun c19 => by exfalso; omega)
  refine m_aload_n dX11_place_25 rfl ?_
  refine m_get fl_X11_48 (by decide) rfl rfl dX11_place_26 ?_
  refine m_aload_n dX11_place_29 rfl ?_
  refine m_aload_n dX11_place_30 rfl ?_
  refine m_get fl_X11_23 (by decide) rfl rfl dX11_place_31 ?_
  refine m_callVV (s_X2_makeLeast (jm := 4) hs.1 hn13 (by decide) (by omega) (by decide) (hs.2 n hn).1 (hs.2 n hn).2) cv_X11_148 dX11_place_34 (fun d34 h34 => ?_)
  refine m_aload_n dX11_place_37 rfl ?_
  refine m_get fl_X11_80 (by decide) rfl rfl dX11_place_38 ?_
  refine m_aload_n dX11_place_41 rfl ?_
  refine m_get fl_X11_23 (by decide) rfl rfl dX11_place_42 ?_
  refine m_callVI (s_X6_placeOfLeast (j := 4) (hs.1.fr h34.2 (by simp) (by simp)) (by decide) h34.1 (fun y hy => (hs.2 n hn).2 y (leastR_mem hy)) (by rw [leastR_len hb]; exact hl)) cv_X11_222 dX11_place_45 (fun r45 d45 h45 => ?_)
  exact m_iret (ty := .int) hR dX11_place_48 (⟨h45.1, (h34.2.mono (fun o ho => List.mem_append_left _ ho)).tr (h45.2.mono (fun o ho => List.mem_append_right _ ho))⟩)
theorem s_X11_partN {y : Int32} (hy : y < -1) (hx : hN x = some n) : mSpecI l W mX11_part (dep + 1) [.ref (xad W 0), .int x, .int y] d (fun r d' => r = -3 ∧ d' = d) := by
  obtain ⟨hn, rfl⟩ := hN_some hx
  refine m_spec RX11 [some (.ref (xad W 0)), some (.int (nI n)), some (.int y), none] rfl (by decide +kernel) rfl rfl (fun K hR => ?_)
  refine m_aload_n dX11_part_0 rfl ?_
  refine m_iload_n dX11_part_1 rfl ?_
  refine m_callVRp (s_X11_heapAt hn) cv_X11_136 dX11_part_2 ?_
  refine m_astore_n dX11_part_5 (Nat.le_of_ble_eq_true rfl) rfl ?_
  refine m_aload_n dX11_part_6 rfl ?_
  refine m_ifnonnull 13 dX11_part_7 (by decide) ?_
  refine m_iload_n dX11_part_13 rfl ?_
  refine m_iconst (v := -1) dX11_part_14 (by decide) ?_
  refine m_icmp_ge 23 dX11_part_15 (by decide) (fun c15 => by exfalso; exact absurd hy (Int32.not_lt.mpr c15)) (fun c15 => ?_)
  refine m_bipush (v := -3) dX11_part_18 (by decide) ?_
  refine m_goto 32 dX11_part_20 (by decide) ?_
  exact m_iret (ty := .int) hR dX11_part_32 (⟨rfl, rfl⟩)
theorem s_X11_partM (hx : hN x = some n) (hs : stIs d σ) : mSpecI l W mX11_part (dep + 3) [.ref (xad W 0), .int x, .int (-1)] d (fun r d' => r = nI (partsF σ.1 σ.2.1 (bitsOf (σ.2.2 n)) σ.1).2.length ∧ d' = d) := by
  obtain ⟨hn, rfl⟩ := hN_some hx
  have hn13 : n < 13 := by omega
  refine m_spec RX11 [some (.ref (xad W 0)), some (.int (nI n)), some (.int (-1)), none] rfl (by decide +kernel) rfl rfl (fun K hR => ?_)
  refine m_aload_n dX11_part_0 rfl ?_
  refine m_iload_n dX11_part_1 rfl ?_
  refine m_callVRp (s_X11_heapAt hn) cv_X11_136 dX11_part_2 ?_
  refine m_astore_n dX11_part_5 (Nat.le_of_ble_eq_true rfl) rfl ?_
  refine m_aload_n dX11_part_6 rfl ?_
  refine m_ifnonnull 13 dX11_part_7 (by decide) ?_
  refine m_iload_n dX11_part_13 rfl ?_
  refine m_iconst (v := -1) dX11_part_14 (by decide) ?_
  refine m_icmp_ge 23 dX11_part_15 (by decide) (fun c15 => ?_) (fun c15 => by exfalso; exact c15 (by decide))
  refine m_aload_n dX11_part_23 rfl ?_
  refine m_get fl_X11_48 (by decide) rfl rfl dX11_part_24 ?_
  refine m_aload_n dX11_part_27 rfl ?_
  refine m_iload_n dX11_part_28 rfl ?_
  refine m_callVIp (s_X2_partBitsM hs.1 hn13 (hs.2 n hn).1) cv_X11_200 dX11_part_29 ?_
  exact m_iret (ty := .int) hR dX11_part_32 (⟨rfl, rfl⟩)
theorem s_X11_part {m : Nat} (hm : m < 2 ^ 31) (hx : hN x = some n) (hs : stIs d σ) : mSpecI l W mX11_part (dep + 3) [.ref (xad W 0), .int x, .int (nI m)] d (fun r d' => r = optI ((partsF σ.1 σ.2.1 (bitsOf (σ.2.2 n)) σ.1).2[m]?) ∧ d' = d) := by
  obtain ⟨hn, rfl⟩ := hN_some hx
  have hn13 : n < 13 := by omega
  have hge : (-1 : Int32) ≤ nI m := by
    rw [Int32.le_iff_toInt_le, nI_toInt hm]
    have : (-1 : Int32).toInt = -1 := by decide
    omega
  refine m_spec RX11 [some (.ref (xad W 0)), some (.int (nI n)), some (.int (nI m)), none] rfl (by decide +kernel) rfl rfl (fun K hR => ?_)
  refine m_aload_n dX11_part_0 rfl ?_
  refine m_iload_n dX11_part_1 rfl ?_
  refine m_callVRp (s_X11_heapAt hn) cv_X11_136 dX11_part_2 ?_
  refine m_astore_n dX11_part_5 (Nat.le_of_ble_eq_true rfl) rfl ?_
  refine m_aload_n dX11_part_6 rfl ?_
  refine m_ifnonnull 13 dX11_part_7 (by decide) ?_
  refine m_iload_n dX11_part_13 rfl ?_
  refine m_iconst (v := -1) dX11_part_14 (by decide) ?_
  refine m_icmp_ge 23 dX11_part_15 (by decide) (fun c15 => ?_) (fun c15 => by exfalso; exact c15 hge)
  refine m_aload_n dX11_part_23 rfl ?_
  refine m_get fl_X11_48 (by decide) rfl rfl dX11_part_24 ?_
  refine m_aload_n dX11_part_27 rfl ?_
  refine m_iload_n dX11_part_28 rfl ?_
  refine m_callVIp (s_X2_partBits hs.1 hn13 (hs.2 n hn).1 hm) cv_X11_200 dX11_part_29 ?_
  exact m_iret (ty := .int) hR dX11_part_32 (⟨rfl, rfl⟩)
theorem s_X11_layerN {y : Int32} (hy : y < -1) (hx : hN x = some n) : mSpecI l W mX11_layer (dep + 1) [.ref (xad W 0), .int x, .int y] d (fun r d' => r = -3 ∧ d' = d) := by
  obtain ⟨hn, rfl⟩ := hN_some hx
  refine m_spec RX11 [some (.ref (xad W 0)), some (.int (nI n)), some (.int y), none] rfl (by decide +kernel) rfl rfl (fun K hR => ?_)
  refine m_aload_n dX11_layer_0 rfl ?_
  refine m_iload_n dX11_layer_1 rfl ?_
  refine m_callVRp (s_X11_heapAt hn) cv_X11_136 dX11_layer_2 ?_
  refine m_astore_n dX11_layer_5 (Nat.le_of_ble_eq_true rfl) rfl ?_
  refine m_aload_n dX11_layer_6 rfl ?_
  refine m_ifnonnull 13 dX11_layer_7 (by decide) ?_
  refine m_iload_n dX11_layer_13 rfl ?_
  refine m_iconst (v := -1) dX11_layer_14 (by decide) ?_
  refine m_icmp_ge 23 dX11_layer_15 (by decide) (fun c15 => by exfalso; exact absurd hy (Int32.not_lt.mpr c15)) (fun c15 => ?_)
  refine m_bipush (v := -3) dX11_layer_18 (by decide) ?_
  refine m_goto 32 dX11_layer_20 (by decide) ?_
  exact m_iret (ty := .int) hR dX11_layer_32 (⟨rfl, rfl⟩)
theorem s_X11_layerM (hx : hN x = some n) (hs : stIs d σ) : mSpecI l W mX11_layer (dep + 5) [.ref (xad W 0), .int x, .int (-1)] d (fun r d' => r = nI (layF (bw σ.1 σ.2.1) σ.1 24 (σ.2.2 n)).length ∧ chg [9, 22] d d') := by
  obtain ⟨hn, rfl⟩ := hN_some hx
  have hn13 : n < 13 := by omega
  refine m_spec RX11 [some (.ref (xad W 0)), some (.int (nI n)), some (.int (-1)), none] rfl (by decide +kernel) rfl rfl (fun K hR => ?_)
  refine m_aload_n dX11_layer_0 rfl ?_
  refine m_iload_n dX11_layer_1 rfl ?_
  refine m_callVRp (s_X11_heapAt hn) cv_X11_136 dX11_layer_2 ?_
  refine m_astore_n dX11_layer_5 (Nat.le_of_ble_eq_true rfl) rfl ?_
  refine m_aload_n dX11_layer_6 rfl ?_
  refine m_ifnonnull 13 dX11_layer_7 (by decide) ?_
  refine m_iload_n dX11_layer_13 rfl ?_
  refine m_iconst (v := -1) dX11_layer_14 (by decide) ?_
  refine m_icmp_ge 23 dX11_layer_15 (by decide) (fun c15 => ?_) (fun c15 => by exfalso; exact c15 (by decide))
  refine m_aload_n dX11_layer_23 rfl ?_
  refine m_get fl_X11_48 (by decide) rfl rfl dX11_layer_24 ?_
  refine m_aload_n dX11_layer_27 rfl ?_
  refine m_iload_n dX11_layer_28 rfl ?_
  refine m_callVI (s_X2_layerBitsM hs.1 hn13 (by omega) (hs.2 n hn).1) cv_X11_160 dX11_layer_29 (fun r29 d29 h29 => ?_)
  exact m_iret (ty := .int) hR dX11_layer_32 (h29)
theorem s_X11_layer {m : Nat} (hm : m < 2 ^ 31) (hx : hN x = some n) (hs : stIs d σ) : mSpecI l W mX11_layer (dep + 5) [.ref (xad W 0), .int x, .int (nI m)] d (fun r d' => r = optI ((layF (bw σ.1 σ.2.1) σ.1 24 (σ.2.2 n))[m]?) ∧ chg [9, 22] d d') := by
  obtain ⟨hn, rfl⟩ := hN_some hx
  have hn13 : n < 13 := by omega
  have hge : (-1 : Int32) ≤ nI m := by
    rw [Int32.le_iff_toInt_le, nI_toInt hm]
    have : (-1 : Int32).toInt = -1 := by decide
    omega
  refine m_spec RX11 [some (.ref (xad W 0)), some (.int (nI n)), some (.int (nI m)), none] rfl (by decide +kernel) rfl rfl (fun K hR => ?_)
  refine m_aload_n dX11_layer_0 rfl ?_
  refine m_iload_n dX11_layer_1 rfl ?_
  refine m_callVRp (s_X11_heapAt hn) cv_X11_136 dX11_layer_2 ?_
  refine m_astore_n dX11_layer_5 (Nat.le_of_ble_eq_true rfl) rfl ?_
  refine m_aload_n dX11_layer_6 rfl ?_
  refine m_ifnonnull 13 dX11_layer_7 (by decide) ?_
  refine m_iload_n dX11_layer_13 rfl ?_
  refine m_iconst (v := -1) dX11_layer_14 (by decide) ?_
  refine m_icmp_ge 23 dX11_layer_15 (by decide) (fun c15 => ?_) (fun c15 => by exfalso; exact c15 hge)
  refine m_aload_n dX11_layer_23 rfl ?_
  refine m_get fl_X11_48 (by decide) rfl rfl dX11_layer_24 ?_
  refine m_aload_n dX11_layer_27 rfl ?_
  refine m_iload_n dX11_layer_28 rfl ?_
  refine m_callVI (s_X2_layerBits hs.1 hn13 (by omega) (hs.2 n hn).1 hm) cv_X11_160 dX11_layer_29 (fun r29 d29 h29 => ?_)
  exact m_iret (ty := .int) hR dX11_layer_32 (h29)
theorem s_X11_togetherO {y : Int32} (hy : y < 0 ∨ nI 6 < y) : mSpecI l W mX11_together (dep + 1) [.ref (xad W 0), .int y] d (fun r d' => r = -3 ∧ d' = d) := by
  refine m_spec RX11 [some (.ref (xad W 0)), some (.int y)] rfl (by decide +kernel) rfl rfl (fun K hR => ?_)
  refine m_iload_n dX11_together_0 rfl ?_
  refine m_if_lt 10 dX11_together_1 (by decide) (fun c1 => ?_) (fun c1 => ?_)
  · refine m_bipush (v := -3) dX11_together_10 (by decide) ?_
    refine m_goto 23 dX11_together_12 (by decide) ?_
    exact m_iret (ty := .int) hR dX11_together_23 (⟨rfl, rfl⟩)
  · refine m_iload_n dX11_together_4 rfl ?_
    refine m_bipushN 6 dX11_together_5 (by decide) ?_
    refine m_icmp_le 15 dX11_together_7 (by decide) (fun c7 => by exfalso; exact hy.elim c1 (fun w => absurd c7 (Int32.not_le.mpr w))) (fun c7 => ?_)
    refine m_bipush (v := -3) dX11_together_10 (by decide) ?_
    refine m_goto 23 dX11_together_12 (by decide) ?_
    exact m_iret (ty := .int) hR dX11_together_23 (⟨rfl, rfl⟩)
theorem s_X11_together {m : Nat} (hm : m ≤ 6) (hs : stIs d σ) : mSpecI l W mX11_together (dep + 3) [.ref (xad W 0), .int (nI m)] d (fun r d' => r = nI (tgs σ.1 σ.2.1 m) ∧ d' = d) := by
  refine m_spec RX11 [some (.ref (xad W 0)), some (.int (nI m))] rfl (by decide +kernel) rfl rfl (fun K hR => ?_)
  refine m_iload_n dX11_together_0 rfl ?_
  refine m_if_ltN 10 dX11_together_1 (by decide) (by omega) ?_
  refine m_iload_n dX11_together_4 rfl ?_
  refine m_bipushN 6 dX11_together_5 (by decide) ?_
  first | refine m_icmp_leN 15 dX11_together_7 (by decide) (by omega) (by omega) (fun c7 => ?_) (fun c7 => by exfalso; omega) | refine m_icmp_le 15 dX11_together_7 (by decide) (fun c7 => ?_) (fun c7 => by exfalso; omega)
  refine m_aload_n dX11_together_15 rfl ?_
  refine m_get fl_X11_12 (by decide) rfl rfl dX11_together_16 ?_
  refine m_iload_n dX11_together_19 rfl ?_
  refine m_callVIp (s_X3_setsTogether hs.1 (n := m) (by omega)) cv_X11_212 dX11_together_20 ?_
  exact m_iret (ty := .int) hR dX11_together_23 (⟨rfl, rfl⟩)
theorem s_X11_manyO {y : Int32} (hy : y < 0 ∨ nI 60 < y) : mSpecI l W mX11_many (dep + 1) [.ref (xad W 0), .int y] d (fun r d' => r = -3 ∧ d' = d) := by
  refine m_spec RX11 [some (.ref (xad W 0)), some (.int y)] rfl (by decide +kernel) rfl rfl (fun K hR => ?_)
  refine m_iload_n dX11_many_0 rfl ?_
  refine m_if_lt 10 dX11_many_1 (by decide) (fun c1 => ?_) (fun c1 => ?_)
  · refine m_bipush (v := -3) dX11_many_10 (by decide) ?_
    refine m_goto 23 dX11_many_12 (by decide) ?_
    exact m_iret (ty := .int) hR dX11_many_23 (⟨rfl, rfl⟩)
  · refine m_iload_n dX11_many_4 rfl ?_
    refine m_bipushN 60 dX11_many_5 (by decide) ?_
    refine m_icmp_le 15 dX11_many_7 (by decide) (fun c7 => by exfalso; exact hy.elim c1 (fun w => absurd c7 (Int32.not_le.mpr w))) (fun c7 => ?_)
    refine m_bipush (v := -3) dX11_many_10 (by decide) ?_
    refine m_goto 23 dX11_many_12 (by decide) ?_
    exact m_iret (ty := .int) hR dX11_many_23 (⟨rfl, rfl⟩)
theorem s_X11_many {m : Nat} (hm : m ≤ 60) (hs : stIs d σ) : mSpecI l W mX11_many (dep + 4) [.ref (xad W 0), .int (nI m)] d (fun r d' => r = nI (mny (tgs σ.1 σ.2.1) m) ∧ chg [64, 65] d d') := by
  refine m_spec RX11 [some (.ref (xad W 0)), some (.int (nI m))] rfl (by decide +kernel) rfl rfl (fun K hR => ?_)
  refine m_iload_n dX11_many_0 rfl ?_
  refine m_if_ltN 10 dX11_many_1 (by decide) (by omega) ?_
  refine m_iload_n dX11_many_4 rfl ?_
  refine m_bipushN 60 dX11_many_5 (by decide) ?_
  first | refine m_icmp_leN 15 dX11_many_7 (by decide) (by omega) (by omega) (fun c7 => ?_) (fun c7 => by exfalso; omega) | refine m_icmp_le 15 dX11_many_7 (by decide) (fun c7 => ?_) (fun c7 => by exfalso; omega)
  refine m_aload_n dX11_many_15 rfl ?_
  refine m_get fl_X11_80 (by decide) rfl rfl dX11_many_16 ?_
  refine m_iload_n dX11_many_19 rfl ?_
  refine m_callVI (s_X6_heapsOfLength hs.1 hm) cv_X11_215 dX11_many_20 (fun r20 d20 h20 => ?_)
  exact m_iret (ty := .int) hR dX11_many_23 (h20)
theorem s_X11_ofO {y z w : Int32} (h : y < 0 ∨ nI 20 < y ∨ z < 0 ∨ w < 0) : mSpecI l W mX11_of (dep + 1) [.ref (xad W 0), .int y, .int z, .int w] d (fun r d' => r = -3 ∧ d' = d) := by
  refine m_spec RX11 [some (.ref (xad W 0)), some (.int y), some (.int z), some (.int w)] rfl (by decide +kernel) rfl rfl (fun K hR => ?_)
  refine m_iload_n dX11_of_0 rfl ?_
  refine m_if_lt 18 dX11_of_1 (by decide) (fun c1 => ?_) (fun c1 => ?_)
  · refine m_bipush (v := -3) dX11_of_18 (by decide) ?_
    exact m_iret (ty := .int) hR dX11_of_20 (⟨rfl, rfl⟩)
  · refine m_iload_n dX11_of_4 rfl ?_
    refine m_bipushN 20 dX11_of_5 (by decide) ?_
    refine m_icmp_gt 18 dX11_of_7 (by decide) (fun c7 => ?_) (fun c7 => ?_)
    · refine m_bipush (v := -3) dX11_of_18 (by decide) ?_
      exact m_iret (ty := .int) hR dX11_of_20 (⟨rfl, rfl⟩)
    · refine m_iload_n dX11_of_10 rfl ?_
      refine m_if_lt 18 dX11_of_11 (by decide) (fun c11 => ?_) (fun c11 => ?_)
      · refine m_bipush (v := -3) dX11_of_18 (by decide) ?_
        exact m_iret (ty := .int) hR dX11_of_20 (⟨rfl, rfl⟩)
      · refine m_iload_n dX11_of_14 rfl ?_
        refine m_if_ge 21 dX11_of_15 (by decide) (fun c15 => by exfalso; exact h.elim c1 (fun h => h.elim c7 (fun h => h.elim c11 (fun q => absurd q (Int32.not_lt.mpr c15))))) (fun c15 => ?_)
        refine m_bipush (v := -3) dX11_of_18 (by decide) ?_
        exact m_iret (ty := .int) hR dX11_of_20 (⟨rfl, rfl⟩)
theorem s_X11_of {m i p : Nat} (hm : m ≤ 20) (hi : i < 2 ^ 31) (hp : p < 2 ^ 31) (hs : stIs d σ) : mSpecI l W mX11_of (dep + 6) [.ref (xad W 0), .int (nI m), .int (nI i), .int (nI p)] d (fun r d' => (r = if p < m ∧ i < fol σ.1 σ.2.1 m 0 then nI ((unr σ.1 σ.2.1 m 0 i).getD p 0) else -1) ∧ chg folC d d') := by
  refine m_spec RX11 [some (.ref (xad W 0)), some (.int (nI m)), some (.int (nI i)), some (.int (nI p))] rfl (by decide +kernel) rfl rfl (fun K hR => ?_)
  refine m_iload_n dX11_of_0 rfl ?_
  refine m_if_ltN 18 dX11_of_1 (by decide) (by omega) ?_
  refine m_iload_n dX11_of_4 rfl ?_
  refine m_bipushN 20 dX11_of_5 (by decide) ?_
  first | refine m_icmp_gtN 18 dX11_of_7 (by decide) (by omega) (by omega) (fun c7 => by exfalso; omega) (fun c7 => ?_) | refine m_icmp_gt 18 dX11_of_7 (by decide) (fun c7 => by exfalso; omega) (fun c7 => ?_)
  refine m_iload_n dX11_of_10 rfl ?_
  refine m_if_ltN 18 dX11_of_11 (by decide) (by omega) ?_
  refine m_iload_n dX11_of_14 rfl ?_
  refine m_if_geN 21 dX11_of_15 (by decide) (by omega) ?_
  refine m_aload_n dX11_of_21 rfl ?_
  refine m_get fl_X11_80 (by decide) rfl rfl dX11_of_22 ?_
  refine m_iload_n dX11_of_25 rfl ?_
  refine m_iload_n dX11_of_26 rfl ?_
  refine m_iload_n dX11_of_27 rfl ?_
  refine m_callVI (s_X6_letterOf hs.1 hm hi hp) cv_X11_218 dX11_of_28 (fun r28 d28 h28 => ?_)
  exact m_iret (ty := .int) hR dX11_of_31 (h28)
end CAL
