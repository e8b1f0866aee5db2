/-! class SwapSteps: letter, ahead, free, move, count -/
section CAL
variable {l : Launch} {W : xW} {dep : Nat} {d : xD} {bs : List Nat} {σ : St} {x y z w : Int32} {n n2 n3 sts tb : Nat} {mv : Nat → Nat → Nat}
theorem s_X11_letterO (hx : hN x = none) : mSpecI l W mX11_letter (dep + 1) [.ref (xad W 0), .int x, .int y, .int z] d (fun r d' => r = -2 ∧ d' = d) := by
  refine m_spec RX11 [some (.ref (xad W 0)), some (.int x), some (.int y), some (.int z), none] rfl (by decide +kernel) rfl rfl (fun K hR => ?_)
  refine m_aload_n dX11_letter_0 rfl ?_
  refine m_iload_n dX11_letter_1 rfl ?_
  refine m_callVRp (s_X11_heapAtO (hN_none hx)) cv_X11_136 dX11_letter_2 ?_
  refine m_astoreN dX11_letter_5 (Nat.le_of_ble_eq_true rfl) rfl ?_
  refine m_aloadN dX11_letter_7 rfl ?_
  refine m_ifnonnullN dX11_letter_9 ?_
  refine m_bipush (v := -2) dX11_letter_12 (by decide) ?_
  exact m_iret (ty := .int) hR dX11_letter_14 (⟨rfl, rfl⟩)
theorem s_X11_letterW (hx : hN x = some n) (h : y < 0 ∨ z < 0 ∨ nI 1 < z) : mSpecI l W mX11_letter (dep + 1) [.ref (xad W 0), .int x, .int y, .int z] d (fun r d' => r = -3 ∧ d' = d) := by
  obtain ⟨hn, rfl⟩ := hN_some hx
  refine m_spec RX11 [some (.ref (xad W 0)), some (.int (nI n)), some (.int y), some (.int z), none] rfl (by decide +kernel) rfl rfl (fun K hR => ?_)
  refine m_aload_n dX11_letter_0 rfl ?_
  refine m_iload_n dX11_letter_1 rfl ?_
  refine m_callVRp (s_X11_heapAt hn) cv_X11_136 dX11_letter_2 ?_
  refine m_astore dX11_letter_5 (Nat.le_of_ble_eq_true rfl) rfl ?_
  refine m_aload dX11_letter_7 rfl ?_
  refine m_ifnonnull 15 dX11_letter_9 (by decide) ?_
  refine m_iload_n dX11_letter_15 rfl ?_
  refine m_if_lt 28 dX11_letter_16 (by decide) (fun c16 => ?_) (fun c16 => ?_)
  · refine m_bipush (v := -3) dX11_letter_28 (by decide) ?_
    exact m_iret (ty := .int) hR dX11_letter_30 (⟨rfl, rfl⟩)
  · refine m_iload_n dX11_letter_19 rfl ?_
    refine m_if_lt 28 dX11_letter_20 (by decide) (fun c20 => ?_) (fun c20 => ?_)
    · refine m_bipush (v := -3) dX11_letter_28 (by decide) ?_
      exact m_iret (ty := .int) hR dX11_letter_30 (⟨rfl, rfl⟩)
    · refine m_iload_n dX11_letter_23 rfl ?_
      refine m_iconstN 1 dX11_letter_24 (by decide) ?_
      refine m_icmp_le 31 dX11_letter_25 (by decide) (fun c25 => by exfalso; exact h.elim c16 (fun h => h.elim c20 (fun q => absurd c25 (Int32.not_le.mpr q)))) (fun c25 => ?_)
      refine m_bipush (v := -3) dX11_letter_28 (by decide) ?_
      exact m_iret (ty := .int) hR dX11_letter_30 (⟨rfl, rfl⟩)
theorem s_X11_letter {m i : Nat} (hx : hN x = some n) (hi : i < 2 ^ 31) (hm : m ≤ 1) (hs : stIs d σ) : mSpecI l W mX11_letter (dep + 3) [.ref (xad W 0), .int x, .int (nI i), .int (nI m)] d (fun r d' => r = (if m = 0 then rowAt (σ.2.2 n) i else rowAt (leastR (bw σ.1 σ.2.1) (σ.2.2 n)) i) ∧ chg [9, 22, 8, 21] d d') := by
  obtain ⟨hn, rfl⟩ := hN_some hx
  have hn13 : n < 13 := by omega
  refine m_spec RX11 [some (.ref (xad W 0)), some (.int (nI n)), some (.int (nI i)), some (.int (nI m)), none] rfl (by decide +kernel) rfl rfl (fun K hR => ?_)
  refine m_aload_n dX11_letter_0 rfl ?_
  refine m_iload_n dX11_letter_1 rfl ?_
  refine m_callVRp (s_X11_heapAt hn) cv_X11_136 dX11_letter_2 ?_
  refine m_astore dX11_letter_5 (Nat.le_of_ble_eq_true rfl) rfl ?_
  refine m_aload dX11_letter_7 rfl ?_
  refine m_ifnonnull 15 dX11_letter_9 (by decide) ?_
  refine m_iload_n dX11_letter_15 rfl ?_
  refine m_if_ltN 28 dX11_letter_16 (by decide) (by omega) ?_
  refine m_iload_n dX11_letter_19 rfl ?_
  refine m_if_ltN 28 dX11_letter_20 (by decide) (by omega) ?_
  refine m_iload_n dX11_letter_23 rfl ?_
  refine m_iconstN 1 dX11_letter_24 (by decide) ?_
  first | refine m_icmp_leN 31 dX11_letter_25 (by decide) (by omega) (by omega) (fun c25 => ?_) (fun c25 => by exfalso; omega) | refine m_icmp_le 31 dX11_letter_25 (by decide) (fun c25 => ?_) (fun c25 => by exfalso; omega)
  refine m_iload_n dX11_letter_31 rfl ?_
  first | refine m_if_neN 42 dX11_letter_32 (by decide) (by omega) (fun c32 => ?_) (fun c32 => ?_) | refine m_if_ne 42 dX11_letter_32 (by decide) (fun c32 => ?_) (fun c32 => ?_)
  · refine m_aload_n dX11_letter_42 rfl ?_
    refine m_get fl_X11_48 (by decide) rfl rfl dX11_letter_43 ?_
    refine m_aload dX11_letter_46 rfl ?_
    refine m_aload_n dX11_letter_48 rfl ?_
    refine m_get fl_X11_23 (by decide) rfl rfl dX11_letter_49 ?_
    refine m_callVV (s_X2_makeLeast (jm := 4) hs.1 hn13 (by decide) (by omega) (by decide) (hs.2 n hn).1 (hs.2 n hn).2) cv_X11_148 dX11_letter_52 (fun d52 h52 => ?_)
    refine m_aload_n dX11_letter_55 rfl ?_
    refine m_get fl_X11_23 (by decide) rfl rfl dX11_letter_56 ?_
    refine m_iload_n dX11_letter_59 rfl ?_
    refine m_callVIp (s_X9_at (j := 4) (by decide) h52.1 (n := i) hi) cv_X11_146 dX11_letter_60 ?_
    exact m_iret (ty := .int) hR dX11_letter_63 (⟨(if_neg c32).symm, h52.2⟩)
  · refine m_aload dX11_letter_35 rfl ?_
    refine m_iload_n dX11_letter_37 rfl ?_
    refine m_callVIp (s_X9_at hn13 (hs.2 n hn).1 (n := i) hi) cv_X11_146 dX11_letter_38 ?_
    exact m_iret (ty := .int) hR dX11_letter_41 (⟨(if_pos (by omega)).symm, chg.rf⟩)
/-- no place of a row of n pieces -/
def outP (n : Nat) (y : Int32) : Prop := y < 0 ∨ ∃ m, m < 2 ^ 31 ∧ y = nI m ∧ n ≤ m
theorem s_X9_hasPlaceN {j : Nat} {xs : List Nat} (hj : j < 13) (hr : rowIs d j xs) (hy : outP xs.length y) : mSpecI l W mX9_hasPlace dep [.ref (xad W (j + 4)), .int y] d (fun r d' => r = 0 ∧ d' = d) := by
  rcases hy with hy | ⟨m, h1, rfl, h2⟩
  · exact s_X9_hasPlaceO hj hy
  · exact (s_X9_hasPlace hj hr h1).mono (fun r d' ⟨e1, e2⟩ => ⟨by rw [e1, if_neg (by omega)], e2⟩)
theorem s_X11_aheadA (hx : hN x = some n) (ha : outP (σ.2.2 n).length y) (hs : stIs d σ) : mSpecI l W mX11_ahead (dep + 1) [.ref (xad W 0), .int x, .int y, .int z] d (fun r d' => r = -3 ∧ d' = d) := by
  obtain ⟨hn, rfl⟩ := hN_some hx
  have hn13 : n < 13 := by omega
  refine m_spec RX11 [some (.ref (xad W 0)), some (.int (nI n)), some (.int y), some (.int z), none] rfl (by decide +kernel) rfl rfl (fun K hR => ?_)
  refine m_aload_n dX11_ahead_0 rfl ?_
  refine m_iload_n dX11_ahead_1 rfl ?_
  refine m_callVRp (s_X11_heapAt hn) cv_X11_136 dX11_ahead_2 ?_
  refine m_astore dX11_ahead_5 (Nat.le_of_ble_eq_true rfl) rfl ?_
  refine m_aload dX11_ahead_7 rfl ?_
  refine m_ifnonnull 15 dX11_ahead_9 (by decide) ?_
  refine m_aload dX11_ahead_15 rfl ?_
  refine m_iload_n dX11_ahead_17 rfl ?_
  refine m_callVIp (s_X9_hasPlaceN hn13 (hs.2 n hn).1 ha) cv_X11_164 dX11_ahead_18 ?_
  refine m_if_eq 33 dX11_ahead_21 (by decide) (fun c21 => ?_) (fun c21 => by exfalso; exact c21 rfl)
  refine m_bipush (v := -3) dX11_ahead_33 (by decide) ?_
  exact m_iret (ty := .int) hR dX11_ahead_35 (⟨rfl, rfl⟩)
theorem s_X11_aheadB {a : Nat} (hx : hN x = some n) (ha : a < (σ.2.2 n).length) (hz : outP (σ.2.2 n).length z) (hs : stIs d σ) : mSpecI l W mX11_ahead (dep + 1) [.ref (xad W 0), .int x, .int (nI a), .int z] d (fun r d' => r = -3 ∧ d' = d) := by
  obtain ⟨hn, rfl⟩ := hN_some hx
  have hn13 : n < 13 := by omega
  have h24 := (hs.2 n hn).1.1
  refine m_spec RX11 [some (.ref (xad W 0)), some (.int (nI n)), some (.int (nI a)), some (.int z), none] rfl (by decide +kernel) rfl rfl (fun K hR => ?_)
  refine m_aload_n dX11_ahead_0 rfl ?_
  refine m_iload_n dX11_ahead_1 rfl ?_
  refine m_callVRp (s_X11_heapAt hn) cv_X11_136 dX11_ahead_2 ?_
  refine m_astore dX11_ahead_5 (Nat.le_of_ble_eq_true rfl) rfl ?_
  refine m_aload dX11_ahead_7 rfl ?_
  refine m_ifnonnull 15 dX11_ahead_9 (by decide) ?_
  refine m_aload dX11_ahead_15 rfl ?_
  refine m_iload_n dX11_ahead_17 rfl ?_
  refine m_callVIp (s_X9_hasPlace hn13 (hs.2 n hn).1 (n := a) (by omega)) cv_X11_164 dX11_ahead_18 ?_
  refine m_eqi (if_pos ha) ?_
  refine m_if_eq 33 dX11_ahead_21 (by decide) (fun c21 => by exfalso; exact absurd c21 (by decide)) (fun c21 => ?_)
  refine m_aload dX11_ahead_24 rfl ?_
  refine m_iload_n dX11_ahead_26 rfl ?_
  refine m_callVIp (s_X9_hasPlaceN hn13 (hs.2 n hn).1 hz) cv_X11_164 dX11_ahead_27 ?_
  refine m_if_ne 36 dX11_ahead_30 (by decide) (fun c30 => by exfalso; exact c30 rfl) (fun c30 => ?_)
  refine m_bipush (v := -3) dX11_ahead_33 (by decide) ?_
  exact m_iret (ty := .int) hR dX11_ahead_35 (⟨rfl, rfl⟩)
theorem s_X11_freeA (h : x < 0 ∨ nI σ.1 ≤ x) (hs : stIs d σ) : mSpecI l W mX11_free (dep + 1) [.ref (xad W 0), .int x, .int y, .int w] d (fun r d' => r = -2 ∧ d' = d) := by
  refine m_spec RX11 [some (.ref (xad W 0)), some (.int x), some (.int y), some (.int w), none] rfl (by decide +kernel) rfl rfl (fun K hR => ?_)
  refine m_aload_n dX11_free_0 rfl ?_
  refine m_get fl_X11_12 (by decide) rfl rfl dX11_free_1 ?_
  refine m_iload_n dX11_free_4 rfl ?_
  refine m_callVIp (s_X3_hasO hs.1 h) cv_X11_120 dX11_free_5 ?_
  refine m_if_eq 27 dX11_free_8 (by decide) (fun c8 => ?_) (fun c8 => by exfalso; exact c8 rfl)
  refine m_bipush (v := -2) dX11_free_27 (by decide) ?_
  exact m_iret (ty := .int) hR dX11_free_29 (⟨rfl, rfl⟩)
theorem s_X11_freeB {a : Nat} (ha : a < σ.1) (h : y < 0 ∨ nI σ.1 ≤ y) (hs : stIs d σ) : mSpecI l W mX11_free (dep + 1) [.ref (xad W 0), .int (nI a), .int y, .int w] d (fun r d' => r = -2 ∧ d' = d) := by
  have hk := hs.1.2.2.2.1
  refine m_spec RX11 [some (.ref (xad W 0)), some (.int (nI a)), some (.int y), some (.int w), none] rfl (by decide +kernel) rfl rfl (fun K hR => ?_)
  refine m_aload_n dX11_free_0 rfl ?_
  refine m_get fl_X11_12 (by decide) rfl rfl dX11_free_1 ?_
  refine m_iload_n dX11_free_4 rfl ?_
  refine m_callVIp (s_X3_has hs.1 (n := a) (by omega)) cv_X11_120 dX11_free_5 ?_
  refine m_eqi (if_pos ha) ?_
  refine m_if_eq 27 dX11_free_8 (by decide) (fun c8 => by exfalso; exact absurd c8 (by decide)) (fun c8 => ?_)
  refine m_aload_n dX11_free_11 rfl ?_
  refine m_get fl_X11_12 (by decide) rfl rfl dX11_free_12 ?_
  refine m_iload_n dX11_free_15 rfl ?_
  refine m_callVIp (s_X3_hasO hs.1 h) cv_X11_120 dX11_free_16 ?_
  refine m_if_eq 27 dX11_free_19 (by decide) (fun c19 => ?_) (fun c19 => by exfalso; exact c19 rfl)
  refine m_bipush (v := -2) dX11_free_27 (by decide) ?_
  exact m_iret (ty := .int) hR dX11_free_29 (⟨rfl, rfl⟩)
theorem s_X11_freeC {a : Nat} (ha : a < σ.1) (hs : stIs d σ) : mSpecI l W mX11_free (dep + 1) [.ref (xad W 0), .int (nI a), .int (nI a), .int w] d (fun r d' => r = -2 ∧ d' = d) := by
  have hk := hs.1.2.2.2.1
  refine m_spec RX11 [some (.ref (xad W 0)), some (.int (nI a)), some (.int (nI a)), some (.int w), none] rfl (by decide +kernel) rfl rfl (fun K hR => ?_)
  refine m_aload_n dX11_free_0 rfl ?_
  refine m_get fl_X11_12 (by decide) rfl rfl dX11_free_1 ?_
  refine m_iload_n dX11_free_4 rfl ?_
  refine m_callVIp (s_X3_has hs.1 (n := a) (by omega)) cv_X11_120 dX11_free_5 ?_
  refine m_eqi (if_pos ha) ?_
  refine m_if_eq 27 dX11_free_8 (by decide) (fun c8 => by exfalso; exact absurd c8 (by decide)) (fun c8 => ?_)
  refine m_aload_n dX11_free_11 rfl ?_
  refine m_get fl_X11_12 (by decide) rfl rfl dX11_free_12 ?_
  refine m_iload_n dX11_free_15 rfl ?_
  refine m_callVIp (s_X3_has hs.1 (n := a) (by omega)) cv_X11_120 dX11_free_16 ?_
  refine m_eqi (if_pos ha) ?_
  refine m_if_eq 27 dX11_free_19 (by decide) (fun c19 => by exfalso; exact absurd c19 (by decide)) (fun c19 => ?_)
  refine m_iload_n dX11_free_22 rfl ?_
  refine m_iload_n dX11_free_23 rfl ?_
  first | refine m_icmp_neN 30 dX11_free_24 (by decide) (by omega) (by omega) (fun c24 => by exfalso; exact absurd rfl c24) (fun c24 => ?_) | refine m_icmp_ne 30 dX11_free_24 (by decide) (fun c24 => by exfalso; exact absurd rfl c24) (fun c24 => ?_)
  refine m_bipush (v := -2) dX11_free_27 (by decide) ?_
  exact m_iret (ty := .int) hR dX11_free_29 (⟨rfl, rfl⟩)
theorem s_X11_moveA (h : x < 0 ∨ nI sts ≤ x) (hr : rdIs d sts tb mv) : mSpecI l W mX11_move (dep + 1) [.ref (xad W 0), .int x, .int y, .int z] d (fun r d' => r = -2 ∧ d' = d) := by
  refine m_spec RX11 [some (.ref (xad W 0)), some (.int x), some (.int y), some (.int z), none] rfl (by decide +kernel) rfl rfl (fun K hR => ?_)
  refine m_aload_n dX11_move_0 rfl ?_
  refine m_get fl_X11_89 (by decide) rfl rfl dX11_move_1 ?_
  refine m_iload_n dX11_move_4 rfl ?_
  refine m_callVIp (s_X8_hasO hr h) cv_X11_229 dX11_move_5 ?_
  refine m_if_eq 22 dX11_move_8 (by decide) (fun c8 => ?_) (fun c8 => by exfalso; exact c8 rfl)
  refine m_bipush (v := -2) dX11_move_22 (by decide) ?_
  exact m_iret (ty := .int) hR dX11_move_24 (⟨rfl, rfl⟩)
theorem s_X11_moveB {a : Nat} (ha : a < sts) (h : z < 0 ∨ nI sts ≤ z) (hr : rdIs d sts tb mv) : mSpecI l W mX11_move (dep + 1) [.ref (xad W 0), .int (nI a), .int y, .int z] d (fun r d' => r = -2 ∧ d' = d) := by
  have h5 := hr.2.2.2.1
  refine m_spec RX11 [some (.ref (xad W 0)), some (.int (nI a)), some (.int y), some (.int z), none] rfl (by decide +kernel) rfl rfl (fun K hR => ?_)
  refine m_aload_n dX11_move_0 rfl ?_
  refine m_get fl_X11_89 (by decide) rfl rfl dX11_move_1 ?_
  refine m_iload_n dX11_move_4 rfl ?_
  refine m_callVIp (s_X8_has hr (n := a) (by omega)) cv_X11_229 dX11_move_5 ?_
  refine m_eqi (if_pos ha) ?_
  refine m_if_eq 22 dX11_move_8 (by decide) (fun c8 => by exfalso; exact absurd c8 (by decide)) (fun c8 => ?_)
  refine m_aload_n dX11_move_11 rfl ?_
  refine m_get fl_X11_89 (by decide) rfl rfl dX11_move_12 ?_
  refine m_iload_n dX11_move_15 rfl ?_
  refine m_callVIp (s_X8_hasO hr h) cv_X11_229 dX11_move_16 ?_
  refine m_if_ne 25 dX11_move_19 (by decide) (fun c19 => by exfalso; exact c19 rfl) (fun c19 => ?_)
  refine m_bipush (v := -2) dX11_move_22 (by decide) ?_
  exact m_iret (ty := .int) hR dX11_move_24 (⟨rfl, rfl⟩)
theorem s_X11_moveC {a b : Nat} (ha : a < sts) (hb : b < sts) (h : y < 0 ∨ nI 6 ≤ y) (hr : rdIs d sts tb mv) : mSpecI l W mX11_move (dep + 1) [.ref (xad W 0), .int (nI a), .int y, .int (nI b)] d (fun r d' => r = -3 ∧ d' = d) := by
  have h5 := hr.2.2.2.1
  refine m_spec RX11 [some (.ref (xad W 0)), some (.int (nI a)), some (.int y), some (.int (nI b)), none] rfl (by decide +kernel) rfl rfl (fun K hR => ?_)
  refine m_aload_n dX11_move_0 rfl ?_
  refine m_get fl_X11_89 (by decide) rfl rfl dX11_move_1 ?_
  refine m_iload_n dX11_move_4 rfl ?_
  refine m_callVIp (s_X8_has hr (n := a) (by omega)) cv_X11_229 dX11_move_5 ?_
  refine m_eqi (if_pos ha) ?_
  refine m_if_eq 22 dX11_move_8 (by decide) (fun c8 => by exfalso; exact absurd c8 (by decide)) (fun c8 => ?_)
  refine m_aload_n dX11_move_11 rfl ?_
  refine m_get fl_X11_89 (by decide) rfl rfl dX11_move_12 ?_
  refine m_iload_n dX11_move_15 rfl ?_
  refine m_callVIp (s_X8_has hr (n := b) (by omega)) cv_X11_229 dX11_move_16 ?_
  refine m_eqi (if_pos hb) ?_
  refine m_if_ne 25 dX11_move_19 (by decide) (fun c19 => ?_) (fun c19 => by exfalso; exact c19 (by decide))
  refine m_iload_n dX11_move_25 rfl ?_
  refine m_if_lt 35 dX11_move_26 (by decide) (fun c26 => ?_) (fun c26 => ?_)
  · refine m_bipush (v := -3) dX11_move_35 (by decide) ?_
    exact m_iret (ty := .int) hR dX11_move_37 (⟨rfl, rfl⟩)
  · refine m_iload_n dX11_move_29 rfl ?_
    refine m_bipushN 6 dX11_move_30 (by decide) ?_
    refine m_icmp_lt 38 dX11_move_32 (by decide) (fun c32 => by exfalso; exact h.elim c26 (fun q => absurd c32 (Int32.not_lt.mpr q))) (fun c32 => ?_)
    refine m_bipush (v := -3) dX11_move_35 (by decide) ?_
    exact m_iret (ty := .int) hR dX11_move_37 (⟨rfl, rfl⟩)
theorem s_X11_move {a b p : Nat} (ha : a < sts) (hb : b < sts) (hp : p < 6) (hr : rdIs d sts tb mv) : mSpecI l W mX11_move (dep + 1) [.ref (xad W 0), .int (nI a), .int (nI p), .int (nI b)] d (fun r d' => r = nI (mv a p) ∧ rdIs d' sts tb (fun s' p' => if s' = a ∧ p' = p then b else mv s' p') ∧ chg [a + 70] d d') := by
  have h5 := hr.2.2.2.1
  refine m_spec RX11 [some (.ref (xad W 0)), some (.int (nI a)), some (.int (nI p)), some (.int (nI b)), none] rfl (by decide +kernel) rfl rfl (fun K hR => ?_)
  refine m_aload_n dX11_move_0 rfl ?_
  refine m_get fl_X11_89 (by decide) rfl rfl dX11_move_1 ?_
  refine m_iload_n dX11_move_4 rfl ?_
  refine m_callVIp (s_X8_has hr (n := a) (by omega)) cv_X11_229 dX11_move_5 ?_
  refine m_eqi (if_pos ha) ?_
  refine m_if_eq 22 dX11_move_8 (by decide) (fun c8 => by exfalso; exact absurd c8 (by decide)) (fun c8 => ?_)
  refine m_aload_n dX11_move_11 rfl ?_
  refine m_get fl_X11_89 (by decide) rfl rfl dX11_move_12 ?_
  refine m_iload_n dX11_move_15 rfl ?_
  refine m_callVIp (s_X8_has hr (n := b) (by omega)) cv_X11_229 dX11_move_16 ?_
  refine m_eqi (if_pos hb) ?_
  refine m_if_ne 25 dX11_move_19 (by decide) (fun c19 => ?_) (fun c19 => by exfalso; exact c19 (by decide))
  refine m_iload_n dX11_move_25 rfl ?_
  refine m_if_ltN 35 dX11_move_26 (by decide) (by omega) ?_
  refine m_iload_n dX11_move_29 rfl ?_
  refine m_bipushN 6 dX11_move_30 (by decide) ?_
  first | refine m_icmp_ltN 38 dX11_move_32 (by decide) (by omega) (by omega) (fun c32 => ?_) (fun c32 => by exfalso; omega) | refine m_icmp_lt 38 dX11_move_32 (by decide) (fun c32 => ?_) (fun c32 => by exfalso; omega)
  refine m_aload_n dX11_move_38 rfl ?_
  refine m_get fl_X11_89 (by decide) rfl rfl dX11_move_39 ?_
  refine m_iload_n dX11_move_42 rfl ?_
  refine m_iload_n dX11_move_43 rfl ?_
  refine m_callVIp (s_X8_next hr (s := a) (p := p) (by omega) hp) cv_X11_230 dX11_move_44 ?_
  refine m_istore dX11_move_47 (Nat.le_of_ble_eq_true rfl) rfl ?_
  refine m_aload_n dX11_move_49 rfl ?_
  refine m_get fl_X11_89 (by decide) rfl rfl dX11_move_50 ?_
  refine m_iload_n dX11_move_53 rfl ?_
  refine m_iload_n dX11_move_54 rfl ?_
  refine m_iload_n dX11_move_55 rfl ?_
  refine m_callVV (s_X8_setMove hr ha hp hb) cv_X11_234 dX11_move_56 (fun d56 h56 => ?_)
  refine m_iload dX11_move_59 rfl ?_
  exact m_iret (ty := .int) hR dX11_move_61 (⟨rfl, h56⟩)
end CAL
