/-! class SwapSteps: the reader, pairs of letters -/
theorem nI_two : ∀ a, a < 7 → nI 1 <<< (nI a &&& 31) = nI (2 ^ a) := by decide +kernel
section CAL
variable {l : Launch} {W : xW} {dep : Nat} {d : xD} {bs : List Nat} {σ : St} {x y z : Int32} {n n2 n3 sts tb : Nat} {mv : Nat → Nat → Nat}
theorem s_X11_readerO (hx : x < nI 1 ∨ nI 5 < x ∨ y < 0) : mSpecI l W mX11_reader (dep + 1) [.ref (xad W 0), .int x, .int y] d (fun r d' => r = -3 ∧ d' = d) := by
  refine m_spec RX11 [some (.ref (xad W 0)), some (.int x), some (.int y)] rfl (by decide +kernel) rfl rfl (fun K hR => ?_)
  refine m_iload_n dX11_reader_0 rfl ?_
  refine m_iconstN 1 dX11_reader_1 (by decide) ?_
  refine m_icmp_lt 21 dX11_reader_2 (by decide) (fun c2 => ?_) (fun c2 => ?_)
  · refine m_bipush (v := -3) dX11_reader_21 (by decide) ?_
    exact m_iret (ty := .int) hR dX11_reader_23 (⟨rfl, rfl⟩)
  · refine m_iload_n dX11_reader_5 rfl ?_
    refine m_iconstN 5 dX11_reader_6 (by decide) ?_
    refine m_icmp_gt 21 dX11_reader_7 (by decide) (fun c7 => ?_) (fun c7 => ?_)
    · refine m_bipush (v := -3) dX11_reader_21 (by decide) ?_
      exact m_iret (ty := .int) hR dX11_reader_23 (⟨rfl, rfl⟩)
    · refine m_iload_n dX11_reader_10 rfl ?_
      refine m_if_lt 21 dX11_reader_11 (by decide) (fun c11 => ?_) (fun c11 => by exfalso; exact hx.elim c2 (fun h => h.elim c7 c11))
      refine m_bipush (v := -3) dX11_reader_21 (by decide) ?_
      exact m_iret (ty := .int) hR dX11_reader_23 (⟨rfl, rfl⟩)
theorem s_X11_readerB {a t : Nat} (h1 : 1 ≤ a) (h5 : a ≤ 5) (ht : t < 2 ^ 31) (hge : 2 ^ a ≤ t) : mSpecI l W mX11_reader (dep + 1) [.ref (xad W 0), .int (nI a), .int (nI t)] d (fun r d' => r = -3 ∧ d' = d) := by
  have h2 : 2 ^ a ≤ 2 ^ 5 := Nat.pow_le_pow_right (by decide) h5
  refine m_spec RX11 [some (.ref (xad W 0)), some (.int (nI a)), some (.int (nI t))] rfl (by decide +kernel) rfl rfl (fun K hR => ?_)
  refine m_iload_n dX11_reader_0 rfl ?_
  refine m_iconstN 1 dX11_reader_1 (by decide) ?_
  first | refine m_icmp_ltN 21 dX11_reader_2 (by decide) (by omega) (by omega) (fun c2 => by exfalso; omega) (fun c2 => ?_) | refine m_icmp_lt 21 dX11_reader_2 (by decide) (fun c2 => by exfalso; omega) (fun c2 => ?_)
  refine m_iload_n dX11_reader_5 rfl ?_
  refine m_iconstN 5 dX11_reader_6 (by decide) ?_
  first | refine m_icmp_gtN 21 dX11_reader_7 (by decide) (by omega) (by omega) (fun c7 => by exfalso; omega) (fun c7 => ?_) | refine m_icmp_gt 21 dX11_reader_7 (by decide) (fun c7 => by exfalso; omega) (fun c7 => ?_)
  refine m_iload_n dX11_reader_10 rfl ?_
  refine m_if_ltN 21 dX11_reader_11 (by decide) (by omega) ?_
  refine m_iload_n dX11_reader_14 rfl ?_
  refine m_iconstN 1 dX11_reader_15 (by decide) ?_
  refine m_iload_n dX11_reader_16 rfl ?_
  refine m_ishl dX11_reader_17 ?_
  refine m_eqi (nI_two a (by omega)) ?_
  first | refine m_icmp_ltN 24 dX11_reader_18 (by decide) (by omega) (by omega) (fun c18 => by exfalso; omega) (fun c18 => ?_) | refine m_icmp_lt 24 dX11_reader_18 (by decide) (fun c18 => by exfalso; omega) (fun c18 => ?_)
  refine m_bipush (v := -3) dX11_reader_21 (by decide) ?_
  exact m_iret (ty := .int) hR dX11_reader_23 (⟨rfl, rfl⟩)
theorem s_X11_reader {a t zz : Nat} (h1 : 1 ≤ a) (h5 : a ≤ 5) (ht : t < 2 ^ a) (hz : ptIs d zz) : mSpecI l W mX11_reader (dep + 2) [.ref (xad W 0), .int (nI a), .int (nI t)] d (fun r d' => r = 1 ∧ rdIs d' a t (fun s _ => s) ∧ ptIs d' zz ∧ chg [66, 70, 71, 72, 73, 74] d d') := by
  have h2 : 2 ^ a ≤ 2 ^ 5 := Nat.pow_le_pow_right (by decide) h5
  refine m_spec RX11 [some (.ref (xad W 0)), some (.int (nI a)), some (.int (nI t))] rfl (by decide +kernel) rfl rfl (fun K hR => ?_)
  refine m_iload_n dX11_reader_0 rfl ?_
  refine m_iconstN 1 dX11_reader_1 (by decide) ?_
  first | refine m_icmp_ltN 21 dX11_reader_2 (by decide) (by omega) (by omega) (fun c2 => by exfalso; omega) (fun c2 => ?_) | refine m_icmp_lt 21 dX11_reader_2 (by decide) (fun c2 => by exfalso; omega) (fun c2 => ?_)
  refine m_iload_n dX11_reader_5 rfl ?_
  refine m_iconstN 5 dX11_reader_6 (by decide) ?_
  first | refine m_icmp_gtN 21 dX11_reader_7 (by decide) (by omega) (by omega) (fun c7 => by exfalso; omega) (fun c7 => ?_) | refine m_icmp_gt 21 dX11_reader_7 (by decide) (fun c7 => by exfalso; omega) (fun c7 => ?_)
  refine m_iload_n dX11_reader_10 rfl ?_
  refine m_if_ltN 21 dX11_reader_11 (by decide) (by omega) ?_
  refine m_iload_n dX11_reader_14 rfl ?_
  refine m_iconstN 1 dX11_reader_15 (by decide) ?_
  refine m_iload_n dX11_reader_16 rfl ?_
  refine m_ishl dX11_reader_17 ?_
  refine m_eqi (nI_two a (by omega)) ?_
  first | refine m_icmp_ltN 24 dX11_reader_18 (by decide) (by omega) (by omega) (fun c18 => ?_) (fun c18 => by exfalso; omega) | refine m_icmp_lt 24 dX11_reader_18 (by decide) (fun c18 => ?_) (fun c18 => by exfalso; omega)
  refine m_aload_n dX11_reader_24 rfl ?_
  refine m_get fl_X11_89 (by decide) rfl rfl dX11_reader_25 ?_
  refine m_iload_n dX11_reader_28 rfl ?_
  refine m_iload_n dX11_reader_29 rfl ?_
  refine m_callVV (s_X8_restart hz h1 h5 ht) cv_X11_225 dX11_reader_30 (fun d30 h30 => ?_)
  refine m_iconstN 1 dX11_reader_33 (by decide) ?_
  exact m_iret (ty := .int) hR dX11_reader_34 (⟨rfl, h30⟩)
theorem s_X11_minds (hs : stIs d σ) (h : rdIs d sts tb mv) : mSpecI l W mX11_minds (dep + 3) [.ref (xad W 0)] d (fun r d' => ((∃ N, r = nI N ∧ mdN σ.1 sts σ.2.1 mv N ∧ ∀ M, M < N → ¬ mdN σ.1 sts σ.2.1 mv M) ∨ (r = -1 ∧ ∀ M, ¬ mdN σ.1 sts σ.2.1 mv M)) ∧ d' = d) := by
  refine m_spec RX11 [some (.ref (xad W 0))] rfl (by decide +kernel) rfl rfl (fun K hR => ?_)
  refine m_aload_n dX11_minds_0 rfl ?_
  refine m_get fl_X11_89 (by decide) rfl rfl dX11_minds_1 ?_
  refine m_callVI (s_X8_firstMinded hs.1 h) cv_X11_238 dX11_minds_4 (fun r4 d4 h4 => ?_)
  exact m_iret (ty := .int) hR dX11_minds_7 (h4)
theorem s_X11_takenO (hy : y < 0 ∨ nI 60 < y) : mSpecI l W mX11_taken (dep + 1) [.ref (xad W 0), .int y] d (fun r d' => r = -3 ∧ d' = d) := by
  refine m_spec RX11 [some (.ref (xad W 0)), some (.int y)] rfl (by decide +kernel) rfl rfl (fun K hR => ?_)
  refine m_iload_n dX11_taken_0 rfl ?_
  refine m_if_lt 10 dX11_taken_1 (by decide) (fun c1 => ?_) (fun c1 => ?_)
  · refine m_bipush (v := -3) dX11_taken_10 (by decide) ?_
    refine m_goto 23 dX11_taken_12 (by decide) ?_
    exact m_iret (ty := .int) hR dX11_taken_23 (⟨rfl, rfl⟩)
  · refine m_iload_n dX11_taken_4 rfl ?_
    refine m_bipushN 60 dX11_taken_5 (by decide) ?_
    refine m_icmp_le 15 dX11_taken_7 (by decide) (fun c7 => by exfalso; exact hy.elim c1 (fun w => absurd c7 (Int32.not_le.mpr w))) (fun c7 => ?_)
    refine m_bipush (v := -3) dX11_taken_10 (by decide) ?_
    refine m_goto 23 dX11_taken_12 (by decide) ?_
    exact m_iret (ty := .int) hR dX11_taken_23 (⟨rfl, rfl⟩)
theorem s_X11_taken {m zz : Nat} (hm : m ≤ 60) (hs : stIs d σ) (h : rdIs d sts tb mv) (hz : ptIs d zz) : mSpecI l W mX11_taken (dep + 4) [.ref (xad W 0), .int (nI m)] d (fun r d' => r = nI (smT sts tb (tkT σ.1 sts σ.2.1 mv m) 320 % 1000000007) ∧ rdIs d' sts tb mv ∧ (∃ z', ptIs d' z') ∧ chg tknC d d') := by
  refine m_spec RX11 [some (.ref (xad W 0)), some (.int (nI m))] rfl (by decide +kernel) rfl rfl (fun K hR => ?_)
  refine m_iload_n dX11_taken_0 rfl ?_
  refine m_if_ltN 10 dX11_taken_1 (by decide) (by omega) ?_
  refine m_iload_n dX11_taken_4 rfl ?_
  refine m_bipushN 60 dX11_taken_5 (by decide) ?_
  first | refine m_icmp_leN 15 dX11_taken_7 (by decide) (by omega) (by omega) (fun c7 => ?_) (fun c7 => by exfalso; omega) | refine m_icmp_le 15 dX11_taken_7 (by decide) (fun c7 => ?_) (fun c7 => by exfalso; omega)
  refine m_aload_n dX11_taken_15 rfl ?_
  refine m_get fl_X11_89 (by decide) rfl rfl dX11_taken_16 ?_
  refine m_iload_n dX11_taken_19 rfl ?_
  refine m_callVI (s_X8_heapsTaken hs.1 h hz (n := m) (by omega)) cv_X11_247 dX11_taken_20 (fun r20 d20 h20 => ?_)
  exact m_iret (ty := .int) hR dX11_taken_23 (h20)
theorem s_X11_runO (hx : hN x = none) : mSpecI l W mX11_run (dep + 1) [.ref (xad W 0), .int x, .int y] d (fun r d' => r = -2 ∧ d' = d) := by
  refine m_spec RX11 [some (.ref (xad W 0)), some (.int x), some (.int y), none, none] rfl (by decide +kernel) rfl rfl (fun K hR => ?_)
  refine m_aload_n dX11_run_0 rfl ?_
  refine m_iload_n dX11_run_1 rfl ?_
  refine m_callVRp (s_X11_heapAtO (hN_none hx)) cv_X11_136 dX11_run_2 ?_
  refine m_astore_nN dX11_run_5 (Nat.le_of_ble_eq_true rfl) rfl ?_
  refine m_aload_nN dX11_run_6 rfl ?_
  refine m_ifnonnullN dX11_run_7 ?_
  refine m_bipush (v := -2) dX11_run_10 (by decide) ?_
  exact m_iret (ty := .int) hR dX11_run_12 (⟨rfl, rfl⟩)
theorem s_X11_runW (hx : hN x = some n) (hy : y < 0 ∨ nI 1 < y) : mSpecI l W mX11_run (dep + 1) [.ref (xad W 0), .int x, .int y] d (fun r d' => r = -3 ∧ d' = d) := by
  obtain ⟨hn, rfl⟩ := hN_some hx
  refine m_spec RX11 [some (.ref (xad W 0)), some (.int (nI n)), some (.int y), none, none] rfl (by decide +kernel) rfl rfl (fun K hR => ?_)
  refine m_aload_n dX11_run_0 rfl ?_
  refine m_iload_n dX11_run_1 rfl ?_
  refine m_callVRp (s_X11_heapAt hn) cv_X11_136 dX11_run_2 ?_
  refine m_astore_n dX11_run_5 (Nat.le_of_ble_eq_true rfl) rfl ?_
  refine m_aload_n dX11_run_6 rfl ?_
  refine m_ifnonnull 13 dX11_run_7 (by decide) ?_
  refine m_iload_n dX11_run_13 rfl ?_
  refine m_if_lt 22 dX11_run_14 (by decide) (fun c14 => ?_) (fun c14 => ?_)
  · refine m_bipush (v := -3) dX11_run_22 (by decide) ?_
    exact m_iret (ty := .int) hR dX11_run_24 (⟨rfl, rfl⟩)
  · refine m_iload_n dX11_run_17 rfl ?_
    refine m_iconstN 1 dX11_run_18 (by decide) ?_
    refine m_icmp_le 25 dX11_run_19 (by decide) (fun c19 => by exfalso; exact hy.elim c14 (fun w => absurd c19 (Int32.not_le.mpr w))) (fun c19 => ?_)
    refine m_bipush (v := -3) dX11_run_22 (by decide) ?_
    exact m_iret (ty := .int) hR dX11_run_24 (⟨rfl, rfl⟩)
theorem s_X11_run {m : Nat} (hx : hN x = some n) (hm : m ≤ 1) (hs : stIs d σ) (h : rdIs d sts tb mv) : mSpecI l W mX11_run (dep + 4) [.ref (xad W 0), .int x, .int (nI m)] d (fun r d' => r = (if m = 0 then nI ((leastR (bw σ.1 σ.2.1) (σ.2.2 n)).foldl mv 0) else if tb.testBit ((leastR (bw σ.1 σ.2.1) (σ.2.2 n)).foldl mv 0) = true then 1 else 0) ∧ chg [9, 22, 8, 21] d d') := by
  obtain ⟨hn, rfl⟩ := hN_some hx
  have hn13 : n < 13 := by omega
  have h5 := h.2.2.2.1
  have hk := hs.1.2.2.2.1
  have hlt := mv_lt h (leastR (bw σ.1 σ.2.1) (σ.2.2 n)) 0 (by have := h.2.2.1; omega) (fun y hy => by have := (hs.2 n hn).2 y (leastR_mem hy); omega)
  refine m_spec RX11 [some (.ref (xad W 0)), some (.int (nI n)), some (.int (nI m)), none, none] rfl (by decide +kernel) rfl rfl (fun K hR => ?_)
  refine m_aload_n dX11_run_0 rfl ?_
  refine m_iload_n dX11_run_1 rfl ?_
  refine m_callVRp (s_X11_heapAt hn) cv_X11_136 dX11_run_2 ?_
  refine m_astore_n dX11_run_5 (Nat.le_of_ble_eq_true rfl) rfl ?_
  refine m_aload_n dX11_run_6 rfl ?_
  refine m_ifnonnull 13 dX11_run_7 (by decide) ?_
  refine m_iload_n dX11_run_13 rfl ?_
  refine m_if_ltN 22 dX11_run_14 (by decide) (by omega) ?_
  refine m_iload_n dX11_run_17 rfl ?_
  refine m_iconstN 1 dX11_run_18 (by decide) ?_
  first | refine m_icmp_leN 25 dX11_run_19 (by decide) (by omega) (by omega) (fun c19 => ?_) (fun c19 => by exfalso; omega) | refine m_icmp_le 25 dX11_run_19 (by decide) (fun c19 => ?_) (fun c19 => by exfalso; omega)
  refine m_aload_n dX11_run_25 rfl ?_
  refine m_get fl_X11_48 (by decide) rfl rfl dX11_run_26 ?_
  refine m_aload_n dX11_run_29 rfl ?_
  refine m_aload_n dX11_run_30 rfl ?_
  refine m_get fl_X11_23 (by decide) rfl rfl dX11_run_31 ?_
  refine m_callVV (s_X2_makeLeast (jm := 4) hs.1 hn13 (by decide) (by omega) (by decide) (hs.2 n hn).1 (hs.2 n hn).2) cv_X11_148 dX11_run_34 (fun d34 h34 => ?_)
  have h34r := h.fr h34.2 (fun o ho => by simp at ho; omega)
  refine m_aload_n dX11_run_37 rfl ?_
  refine m_get fl_X11_89 (by decide) rfl rfl dX11_run_38 ?_
  refine m_aload_n dX11_run_41 rfl ?_
  refine m_get fl_X11_23 (by decide) rfl rfl dX11_run_42 ?_
  refine m_callVIp (s_X8_stateBehind h34r (j := 4) (by decide) h34.1) cv_X11_241 dX11_run_45 ?_
  refine m_istore dX11_run_48 (Nat.le_of_ble_eq_true rfl) rfl ?_
  refine m_iload_n dX11_run_50 rfl ?_
  first | refine m_if_neN 59 dX11_run_51 (by decide) (by omega) (fun c51 => ?_) (fun c51 => ?_) | refine m_if_ne 59 dX11_run_51 (by decide) (fun c51 => ?_) (fun c51 => ?_)
  · refine m_aload_n dX11_run_59 rfl ?_
    refine m_get fl_X11_89 (by decide) rfl rfl dX11_run_60 ?_
    refine m_iload dX11_run_63 rfl ?_
    refine m_callVIp (s_X8_takes h34r (n := (leastR (bw σ.1 σ.2.1) (σ.2.2 n)).foldl mv 0) (by omega)) cv_X11_244 dX11_run_65 ?_
    refine m_eqi (show _ = (if tb.testBit ((leastR (bw σ.1 σ.2.1) (σ.2.2 n)).foldl mv 0) = true then 1 else 0) by simp only [hlt, true_and]) ?_
    refine m_callSIp (s_X11_yes (tb.testBit ((leastR (bw σ.1 σ.2.1) (σ.2.2 n)).foldl mv 0))) cs_X11_128 dX11_run_68 ?_
    exact m_iret (ty := .int) hR dX11_run_71 (⟨(if_neg c51).symm, h34.2⟩)
  · refine m_iload dX11_run_54 rfl ?_
    refine m_goto 71 dX11_run_56 (by decide) ?_
    exact m_iret (ty := .int) hR dX11_run_71 (⟨(if_pos (by omega)).symm, h34.2⟩)
theorem s_X11_free {a b : Nat} {v : Bool} (ha : a < σ.1) (hb : b < σ.1) (hne : a ≠ b) (hs : stIs d σ) : mSpecI l W mX11_free (dep + 3) [.ref (xad W 0), .int (nI a), .int (nI b), .int (if v then 1 else 0)] d (fun r d' => r = (if (σ.2.1 a).testBit b = true then 1 else 0) ∧ stIs d' (σ.1, setFB σ.2.1 a b v, σ.2.2) ∧ chg [2] d d') := by
  have hk := hs.1.2.2.2.1
  refine m_spec RX11 [some (.ref (xad W 0)), some (.int (nI a)), some (.int (nI b)), some (.int (if v then 1 else 0)), none] rfl (by decide +kernel) rfl rfl (fun K hR => ?_)
  refine m_aload_n dX11_free_0 rfl ?_
  refine m_get fl_X11_12 (by decide) rfl rfl dX11_free_1 ?_
  refine m_iload_n dX11_free_4 rfl ?_
  refine m_callVIp (s_X3_has hs.1 (n := a) (by omega)) cv_X11_120 dX11_free_5 ?_
  refine m_eqi (if_pos ha) ?_
  refine m_if_eq 27 dX11_free_8 (by decide) (fun c8 => by exfalso; exact absurd c8 (by decide)) (fun c8 => ?_)
  refine m_aload_n dX11_free_11 rfl ?_
  refine m_get fl_X11_12 (by decide) rfl rfl dX11_free_12 ?_
  refine m_iload_n dX11_free_15 rfl ?_
  refine m_callVIp (s_X3_has hs.1 (n := b) (by omega)) cv_X11_120 dX11_free_16 ?_
  refine m_eqi (if_pos hb) ?_
  refine m_if_eq 27 dX11_free_19 (by decide) (fun c19 => by exfalso; exact absurd c19 (by decide)) (fun c19 => ?_)
  refine m_iload_n dX11_free_22 rfl ?_
  refine m_iload_n dX11_free_23 rfl ?_
  first | refine m_icmp_neN 30 dX11_free_24 (by decide) (by omega) (by omega) (fun c24 => ?_) (fun c24 => by exfalso; omega) | refine m_icmp_ne 30 dX11_free_24 (by decide) (fun c24 => ?_) (fun c24 => by exfalso; omega)
  refine m_aload_n dX11_free_30 rfl ?_
  refine m_get fl_X11_12 (by decide) rfl rfl dX11_free_31 ?_
  refine m_iload_n dX11_free_34 rfl ?_
  refine m_iload_n dX11_free_35 rfl ?_
  refine m_callVIp (s_X3_areFree hs.1 (p := a) (q := b) (by omega) hb) cv_X11_124 dX11_free_36 ?_
  refine m_callSIp (s_X11_yes ((σ.2.1 a).testBit b)) cs_X11_128 dX11_free_39 ?_
  refine m_istore dX11_free_42 (Nat.le_of_ble_eq_true rfl) rfl ?_
  refine m_aload_n dX11_free_44 rfl ?_
  refine m_get fl_X11_12 (by decide) rfl rfl dX11_free_45 ?_
  refine m_iload_n dX11_free_48 rfl ?_
  refine m_iload_n dX11_free_49 rfl ?_
  refine m_iload_n dX11_free_50 rfl ?_
  refine m_callVV (s_X3_setFree (b := v) hs.1 ha hb hne) cv_X11_132 dX11_free_51 (fun d51 h51 => ?_)
  refine m_iload dX11_free_54 rfl ?_
  exact m_iret (ty := .int) hR dX11_free_56 (⟨rfl, ⟨h51.1, hs.2.fr h51.2 (by simp)⟩, h51.2⟩)
end CAL
