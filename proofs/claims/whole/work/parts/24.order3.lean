/-! class Order: how many heaps -/
def lZ (z : Int) : Int64 := Int64.ofInt z
theorem lZ_N (n : Nat) : lZ (n : Int) = lN n := Int64.ofInt_eq_ofNat
theorem lZ_addN (a : Int) (b : Nat) : lZ a + lN b = lZ (a + b) := by rw [← lZ_N]; exact (Int64.ofInt_add a b).symm
theorem lZ_subN (a : Int) (b : Nat) : lZ a + -lN b = lZ (a - b) := by
  rw [← lZ_N, Int.sub_eq_add_neg]
  unfold lZ
  rw [Int64.ofInt_add, Int64.ofInt_neg]
theorem lZ_I {z : Int} (h : -2 ^ 62 < z) (h' : z < 2 ^ 62) : (lZ z).toInt = z := by
  unfold lZ
  exact Int64.toInt_ofInt_of_le (by omega) (by omega)
theorem lZ_P : lN 1000000007 = lZ 1000000007 := (lZ_N 1000000007).symm
theorem lZ_mod {z : Int} (h : -2 ^ 62 < z) (h' : z < 2 ^ 62) : lZ z - lZ z / lN 1000000007 * lN 1000000007 = lZ (z.tmod 1000000007) := by
  have h1 : lZ z / lZ 1000000007 = lZ (z.tdiv 1000000007) := (Int64.ofInt_tdiv (a := z) (b := 1000000007) (by rw [Int64.toInt_minValue]; omega) (by rw [Int64.toInt_maxValue]; omega) (by decide) (by decide)).symm
  have h2 : lZ (z.tdiv 1000000007) * lZ 1000000007 = lZ (z.tdiv 1000000007 * 1000000007) := (Int64.ofInt_mul _ _).symm
  have h3 : lZ z - lZ (z.tdiv 1000000007 * 1000000007) = lZ (z - z.tdiv 1000000007 * 1000000007) := (Int64.ofInt_sub _ _).symm
  rw [lZ_P, h1, h2, h3, Int.tmod_def, Int.mul_comm]
theorem lZ_xor {z : Int} (h : -2 ^ 62 < z) (h' : z < 2 ^ 62) : 0 ≤ lZ z ^^^ lN 1000000007 ↔ 0 ≤ z := by
  have e : (lZ z ^^^ lN 1000000007).toInt < 0 ↔ (lZ z).toInt < 0 := by
    have h1 : (lZ z ^^^ lN 1000000007).toBitVec.msb = (lZ z).toBitVec.msb := by
      rw [Int64.toBitVec_xor, BitVec.msb_xor, show (lN 1000000007).toBitVec.msb = false by decide +kernel, Bool.xor_false]
    rw [BitVec.msb_eq_toInt, BitVec.msb_eq_toInt] at h1
    exact decide_eq_decide.mp h1
  rw [Int64.le_iff_toInt_le]
  rw [lZ_I h h'] at e
  have h0 : (0 : Int64).toInt = 0 := by decide
  rw [h0]
  omega
def P9 : Nat := 1000000007
/-- what the sets of up to i letters add -/
def ssum (t tg : Nat → Nat) (n : Nat) : Nat → Int
  | 0 => 0
  | i + 1 => ssum t tg n i + (if (i + 1) % 2 = 1 then (((tg (i + 1) * t (n - (i + 1))) % P9 : Nat) : Int) else -(((tg (i + 1) * t (n - (i + 1))) % P9 : Nat) : Int))
theorem ssum_s (t tg : Nat → Nat) (n i : Nat) : ssum t tg n (i + 1) = ssum t tg n i + (if (i + 1) % 2 = 1 then (((tg (i + 1) * t (n - (i + 1))) % P9 : Nat) : Int) else -(((tg (i + 1) * t (n - (i + 1))) % P9 : Nat) : Int)) := rfl
theorem ssum_bd (t tg : Nat → Nat) (n : Nat) : ∀ i : Nat, -((i : Int) * 1000000007) ≤ ssum t tg n i ∧ ssum t tg n i ≤ (i : Int) * 1000000007 := by
  intro i
  induction i with
  | zero => exact ⟨by simp [ssum], by simp [ssum]⟩
  | succ i ih =>
    rw [ssum_s]
    have h1 : (tg (i + 1) * t (n - (i + 1))) % P9 < 1000000007 := Nat.mod_lt _ (by decide)
    have h2 : ((i + 1 : Nat) : Int) * 1000000007 = (i : Int) * 1000000007 + 1000000007 := by
      rw [Int.natCast_add, Int.add_mul]; rfl
    rw [h2]
    generalize (tg (i + 1) * t (n - (i + 1))) % P9 = y at *
    generalize (i : Int) * 1000000007 = z at *
    split <;> omega
theorem ssum_congr {t t' tg : Nat → Nat} {n : Nat} (h : ∀ q, q < n → t q = t' q) (hn : 0 < n) : ∀ i, i ≤ n → ssum t tg n i = ssum t' tg n i := by
  intro i
  induction i with
  | zero => intro _; rfl
  | succ i ih => intro hi; rw [ssum_s, ssum_s, ih (by omega), h _ (by omega)]
def mnyL (tg : Nat → Nat) : Nat → List Nat
  | 0 => [1]
  | n + 1 => mnyL tg n ++ [(ssum (fun i => (mnyL tg n).getD i 0) tg (n + 1) (min (n + 1) 6) % 1000000007).toNat]
/-- how many heaps of n pieces, without the rest by P -/
def mny (tg : Nat → Nat) (n : Nat) : Nat := (mnyL tg n).getD n 0
theorem mnyL_len (tg : Nat → Nat) : ∀ n, (mnyL tg n).length = n + 1
  | 0 => rfl
  | n + 1 => by
    show (mnyL tg n ++ [_]).length = _
    rw [List.length_append, mnyL_len tg n]; rfl
theorem mnyL_get (tg : Nat → Nat) {i : Nat} : ∀ n, i ≤ n → (mnyL tg n).getD i 0 = mny tg i := by
  intro n
  induction n with
  | zero => intro h; rw [show i = 0 by omega]; rfl
  | succ n ih =>
    intro h
    by_cases e : i = n + 1
    · subst e; rfl
    · rw [← ih (by omega)]
      show (mnyL tg n ++ [_]).getD i 0 = _
      rw [List.getD_eq_getElem?_getD, List.getElem?_append_left (by rw [mnyL_len]; omega), ← List.getD_eq_getElem?_getD]
theorem mny_s (tg : Nat → Nat) (n : Nat) : mny tg (n + 1) = (ssum (mny tg) tg (n + 1) (min (n + 1) 6) % 1000000007).toNat := by
  have e : ssum (fun i => (mnyL tg n).getD i 0) tg (n + 1) (min (n + 1) 6) = ssum (mny tg) tg (n + 1) (min (n + 1) 6) := ssum_congr (fun q hq => mnyL_get tg n (by omega)) (by omega) _ (by omega)
  rw [← e]
  unfold mny
  show (mnyL tg n ++ [_]).getD (n + 1) 0 = _
  rw [List.getD_eq_getElem?_getD, List.getElem?_append_right (by rw [mnyL_len]; omega), mnyL_len]
  simp
theorem mny_lt (tg : Nat → Nat) (n : Nat) : mny tg n < 1000000007 := by
  cases n with
  | zero => exact (by decide : 1 < 1000000007)
  | succ n => rw [mny_s]; omega
section ORD
variable {l : Launch} {W : xW} {dep : Nat} {d : xD} {k m : Nat} {fb : Nat → Nat} {j : Nat} {xs ys : List Nat}
theorem s_J9_floorMod {z : Int} (h : -2 ^ 62 < z) (h' : z < 2 ^ 62) : mSpecL l W mJ9_floorMod_f86c9 dep [.long (lZ z), .long (lN 1000000007)] d (fun r d' => r = lN (z % 1000000007).toNat ∧ d' = d) := by
  have h1 := Int.tmod_eq_emod (a := z) (b := 1000000007)
  have hb1 : -2 ^ 62 < z.tmod 1000000007 := by rw [h1]; split <;> omega
  have hb2 : z.tmod 1000000007 < 2 ^ 62 := by rw [h1]; split <;> omega
  refine m_specF RJ9 [some (.long (lZ z)), none, some (.long (lN 1000000007)), none, none, none] rfl (by decide +kernel) rfl rfl (fun K hR => ?_)
  refine m_lload_n dJ9_floorMod_f86c9_0 rfl ?_
  refine m_lload_n dJ9_floorMod_f86c9_1 rfl ?_
  refine m_lrem dJ9_floorMod_f86c9_2 (by decide) ?_
  refine m_eql (lZ_mod h h') ?_
  refine m_lstore dJ9_floorMod_f86c9_3 (Nat.le_of_ble_eq_true rfl) rfl ?_
  refine m_lload_n dJ9_floorMod_f86c9_5 rfl ?_
  refine m_lload_n dJ9_floorMod_f86c9_6 rfl ?_
  refine m_lxor dJ9_floorMod_f86c9_7 ?_
  refine m_lconstN 0 dJ9_floorMod_f86c9_8 (by decide) ?_
  first | refine m_lcmp_geN 25 dJ9_floorMod_f86c9_9 dJ9_floorMod_f86c9_10 (by decide) (by omega) (by omega) (fun c9 => ?_) (fun c9 => ?_) | refine m_lcmp_ge 25 dJ9_floorMod_f86c9_9 dJ9_floorMod_f86c9_10 (by decide) (fun c9 => ?_) (fun c9 => ?_)
  · refine m_lload dJ9_floorMod_f86c9_25 rfl ?_
    have hz := (lZ_xor h h').mp c9
    have e9 : z.tmod 1000000007 = ((z % 1000000007).toNat : Int) := by rw [h1, if_pos (Or.inl hz)]; omega
    exact m_lret hR dJ9_floorMod_f86c9_27 (⟨by rw [e9]; exact lZ_N _, rfl⟩)
  · refine m_lload dJ9_floorMod_f86c9_13 rfl ?_
    refine m_lconstN 0 dJ9_floorMod_f86c9_15 (by decide) ?_
    first | refine m_lcmp_eqN 25 dJ9_floorMod_f86c9_16 dJ9_floorMod_f86c9_17 (by decide) (by omega) (by omega) (fun c16 => ?_) (fun c16 => ?_) | refine m_lcmp_eq 25 dJ9_floorMod_f86c9_16 dJ9_floorMod_f86c9_17 (by decide) (fun c16 => ?_) (fun c16 => ?_)
    · refine m_lload dJ9_floorMod_f86c9_25 rfl ?_
      have hz : ¬ 0 ≤ z := fun q => c9 ((lZ_xor h h').mpr q)
      have e8 : z.tmod 1000000007 = 0 := by
        have := congrArg Int64.toInt c16
        rw [lZ_I hb1 hb2] at this
        rw [this]; decide
      have e9 : z.tmod 1000000007 = ((z % 1000000007).toNat : Int) := by
        rw [e8]
        rw [e8] at h1
        split at h1 <;> omega
      exact m_lret hR dJ9_floorMod_f86c9_27 (⟨by rw [e9]; exact lZ_N _, rfl⟩)
    · refine m_lload dJ9_floorMod_f86c9_20 rfl ?_
      refine m_lload_n dJ9_floorMod_f86c9_22 rfl ?_
      refine m_ladd dJ9_floorMod_f86c9_23 ?_
      refine m_eql (lZ_addN _ _) ?_
      have hz : ¬ 0 ≤ z := fun q => c9 ((lZ_xor h h').mpr q)
      have e8 : z.tmod 1000000007 ≠ 0 := fun e => c16 (by rw [e]; rfl)
      have e9 : z.tmod 1000000007 + ((1000000007 : Nat) : Int) = ((z % 1000000007).toNat : Int) := by
        have h4 : ¬ (1000000007 : Int) ∣ z := fun e => e8 (Int.tmod_eq_zero_of_dvd e)
        rw [h1, if_neg (fun q => q.elim hz h4)]
        omega
      exact m_lret hR dJ9_floorMod_f86c9_24 (⟨by rw [e9]; exact lZ_N _, rfl⟩)
theorem s_X6_sumOverSets {tg : Nat → Nat} {n : Nat} (hn : n < 60) (ht : ∀ c, c < 7 → d.1 65 c = nI (tg c) ∧ tg c ≤ 64) (hm : ∀ q, q ≤ n → d.2 64 q = lN (mny tg q)) : mSpecL l W mX6_sumOverSets (dep + 1) [.ref (xad W 62), .int (nI (n + 1))] d (fun r d' => r = lN (mny tg (n + 1)) ∧ d' = d) := by
  refine m_spec RX6 [some (.ref (xad W 62)), some (.int (nI (n + 1))), none, none, none, none, none, none] rfl (by decide +kernel) rfl rfl (fun K hR => ?_)
  have loop : ∀ t, t ≤ min (n + 1) 6 → ∀ o5 o6, mG W K cX6_sumOverSets RX6 (dep + 1) d 5 [some (.ref (xad W 62)), some (.int (nI (n + 1))), some (.long (lZ (ssum (mny tg) tg (n + 1) t))), none, some (.int (nI (t + 1))), o5, o6, none] [] := x_up _ (fun t ht' ih o5 o6 => by
    have hb := ssum_bd (mny tg) tg (n + 1) t
    refine m_iload dX6_sumOverSets_5 rfl ?_
    refine m_iload_n dX6_sumOverSets_7 rfl ?_
    first | refine m_icmp_gtN 88 dX6_sumOverSets_8 (by decide) (by omega) (by omega) (fun c8 => ?_) (fun c8 => ?_) | refine m_icmp_gt 88 dX6_sumOverSets_8 (by decide) (fun c8 => ?_) (fun c8 => ?_)
    · refine m_lload_n dX6_sumOverSets_88 rfl ?_
      have e6 : t = min (n + 1) 6 := by omega
      have ht6 : (t : Int) ≤ 6 := by omega
      refine m_ldc2 ct_X6_49 dX6_sumOverSets_89 ?_
      refine m_eql (y := lN 1000000007) (by decide +kernel) ?_
      refine m_callSLp (s_J9_floorMod (z := ssum (mny tg) tg (n + 1) t) (by omega) (by omega)) cs_X6_51 dX6_sumOverSets_92 ?_
      exact m_lret hR dX6_sumOverSets_95 (⟨by rw [mny_s, e6], rfl⟩)
    · refine m_iload dX6_sumOverSets_11 rfl ?_
      refine m_aload_n dX6_sumOverSets_13 rfl ?_
      refine m_get fl_X6_20 (by decide) rfl rfl dX6_sumOverSets_14 ?_
      refine m_alen (by omega) (by first | rfl | exact xcell_arr _ _ _ (by omega) | exact xcell_mv _ _ (by omega) | exact xcell_fo _ _ (by omega) | exact xcell_ne _ _ (by omega)) (by decide) dX6_sumOverSets_17 ?_
      first | refine m_icmp_geN 88 dX6_sumOverSets_18 (by decide) (by omega) (by omega) (fun c18 => ?_) (fun c18 => ?_) | refine m_icmp_ge 88 dX6_sumOverSets_18 (by decide) (fun c18 => ?_) (fun c18 => ?_)
      · refine m_lload_n dX6_sumOverSets_88 rfl ?_
        have e6 : t = min (n + 1) 6 := by omega
        have ht6 : (t : Int) ≤ 6 := by omega
        refine m_ldc2 ct_X6_49 dX6_sumOverSets_89 ?_
        refine m_eql (y := lN 1000000007) (by decide +kernel) ?_
        refine m_callSLp (s_J9_floorMod (z := ssum (mny tg) tg (n + 1) t) (by omega) (by omega)) cs_X6_51 dX6_sumOverSets_92 ?_
        exact m_lret hR dX6_sumOverSets_95 (⟨by rw [mny_s, e6], rfl⟩)
      · refine m_iload_n dX6_sumOverSets_21 rfl ?_
        refine m_iload dX6_sumOverSets_22 rfl ?_
        first | refine m_isubN dX6_sumOverSets_24 (by omega) ?_ | refine m_isub dX6_sumOverSets_24 ?_
        refine m_istore dX6_sumOverSets_25 (Nat.le_of_ble_eq_true rfl) rfl ?_
        refine m_iload dX6_sumOverSets_27 rfl ?_
        refine m_aload_n dX6_sumOverSets_29 rfl ?_
        refine m_get fl_X6_16 (by decide) rfl rfl dX6_sumOverSets_30 ?_
        refine m_alen (by omega) (by first | rfl | exact xcell_arr _ _ _ (by omega) | exact xcell_mv _ _ (by omega) | exact xcell_fo _ _ (by omega) | exact xcell_ne _ _ (by omega)) (by decide) dX6_sumOverSets_33 ?_
        first | refine m_icmp_geN 60 dX6_sumOverSets_34 (by decide) (by omega) (by omega) (fun c34 => by exfalso; omega) (fun c34 => ?_) | refine m_icmp_ge 60 dX6_sumOverSets_34 (by decide) (fun c34 => by exfalso; omega) (fun c34 => ?_)
        refine m_aload_n dX6_sumOverSets_37 rfl ?_
        refine m_get fl_X6_20 (by decide) rfl rfl dX6_sumOverSets_38 ?_
        refine m_iload dX6_sumOverSets_41 rfl ?_
        have htc := ht (t + 1) (by omega)
        have hmq := hm (n + 1 - (t + 1)) (by omega)
        have hml := mny_lt tg (n + 1 - (t + 1))
        have hpr : tg (t + 1) * mny tg (n + 1 - (t + 1)) ≤ 64 * 1000000007 := Nat.mul_le_mul htc.2 (by omega)
        refine m_iald (by first | exact ⟨by decide, by decide, fun _ => rfl⟩ | exact isI_arr _ (by omega) | exact isI_mv _ (by omega) | exact isI_ne _ (by omega)) (by omega) dX6_sumOverSets_43 ?_
        refine m_eqi (htc.1) ?_
        first | refine m_i2lN dX6_sumOverSets_44 (by omega) ?_ | refine m_i2l dX6_sumOverSets_44 ?_
        refine m_aload_n dX6_sumOverSets_45 rfl ?_
        refine m_get fl_X6_16 (by decide) rfl rfl dX6_sumOverSets_46 ?_
        refine m_iload dX6_sumOverSets_49 rfl ?_
        refine m_lald (by first | exact ⟨by decide, by decide, fun _ => rfl⟩ | exact isL_fo _ (by omega)) (by omega) dX6_sumOverSets_51 ?_
        refine m_eql (hmq) ?_
        first | refine m_lmulN dX6_sumOverSets_52 ?_ | refine m_lmul dX6_sumOverSets_52 ?_
        refine m_ldc2 ct_X6_49 dX6_sumOverSets_53 ?_
        refine m_eql (y := lN 1000000007) (by decide +kernel) ?_
        first | refine m_lremN dX6_sumOverSets_56 (by omega) (by omega) (by omega) ?_ | refine m_lrem dX6_sumOverSets_56 (by decide) ?_
        refine m_goto 61 dX6_sumOverSets_57 (by decide) ?_
        refine m_lstore dX6_sumOverSets_61 (Nat.le_of_ble_eq_true rfl) rfl ?_
        refine m_lload_n dX6_sumOverSets_63 rfl ?_
        refine m_iload dX6_sumOverSets_64 rfl ?_
        refine m_iconstN 2 dX6_sumOverSets_66 (by decide) ?_
        first | refine m_iremN dX6_sumOverSets_67 (by omega) (by omega) (by omega) ?_ | refine m_irem dX6_sumOverSets_67 (by decide) ?_
        refine m_iconstN 1 dX6_sumOverSets_68 (by decide) ?_
        first | refine m_icmp_neN 77 dX6_sumOverSets_69 (by decide) (by omega) (by omega) (fun c69 => ?_) (fun c69 => ?_) | refine m_icmp_ne 77 dX6_sumOverSets_69 (by decide) (fun c69 => ?_) (fun c69 => ?_)
        · refine m_lload dX6_sumOverSets_77 rfl ?_
          refine m_lneg dX6_sumOverSets_79 ?_
          refine m_ladd dX6_sumOverSets_80 ?_
          refine m_eql (lZ_subN _ _) ?_
          refine m_lstore_n dX6_sumOverSets_81 (Nat.le_of_ble_eq_true rfl) rfl ?_
          first | refine m_iincN 1 dX6_sumOverSets_82 (by decide) rfl rfl ?_ | refine m_iinc dX6_sumOverSets_82 rfl rfl ?_
          refine m_goto 5 dX6_sumOverSets_85 (by decide) ?_
          have e := ih (by omega)
          rw [ssum_s, if_neg (by omega), ← Int.sub_eq_add_neg] at e
          exact e _ _
        · refine m_lload dX6_sumOverSets_72 rfl ?_
          refine m_goto 80 dX6_sumOverSets_74 (by decide) ?_
          refine m_ladd dX6_sumOverSets_80 ?_
          refine m_eql (lZ_addN _ _) ?_
          refine m_lstore_n dX6_sumOverSets_81 (Nat.le_of_ble_eq_true rfl) rfl ?_
          first | refine m_iincN 1 dX6_sumOverSets_82 (by decide) rfl rfl ?_ | refine m_iinc dX6_sumOverSets_82 rfl rfl ?_
          refine m_goto 5 dX6_sumOverSets_85 (by decide) ?_
          have e := ih (by omega)
          rw [ssum_s, if_pos (by omega)] at e
          exact e _ _
    )
  refine m_lconstN 0 dX6_sumOverSets_0 (by decide) ?_
  refine m_lstore_n dX6_sumOverSets_1 (Nat.le_of_ble_eq_true rfl) rfl ?_
  refine m_iconstN 1 dX6_sumOverSets_2 (by decide) ?_
  refine m_istore dX6_sumOverSets_3 (Nat.le_of_ble_eq_true rfl) rfl ?_
  exact loop 0 (Nat.zero_le _) _ _
/-- how many sets of c letters that all go together -/
def tgs (k : Nat) (fb : Nat → Nat) (c : Nat) : Nat := togs k fb c (2 ^ k)
theorem s_X6_heapsOfLength (h : letIs d k fb) {n : Nat} (hn : n ≤ 60) : mSpecI l W mX6_heapsOfLength (dep + 3) [.ref (xad W 62), .int (nI n)] d (fun r d' => r = nI (mny (tgs k fb) n) ∧ chg [64, 65] d d') := by
  have hk := h.2.2.2.1
  have h2 : 2 ^ k ≤ 2 ^ 6 := Nat.pow_le_pow_right (by decide) hk
  refine m_spec RX6 [some (.ref (xad W 62)), some (.int (nI n)), none] rfl (by decide +kernel) rfl rfl (fun K hR => ?_)
  have loop2 : ∀ i, i ≤ n → ∀ d1, (∀ c, c < 7 → d1.1 65 c = nI (tgs k fb c) ∧ tgs k fb c ≤ 64) → (∀ q, q ≤ i → d1.2 64 q = lN (mny (tgs k fb) q)) → chg [64, 65] d d1 → mG W K cX6_heapsOfLength RX6 (dep + 3) d1 40 [some (.ref (xad W 62)), some (.int (nI n)), some (.int (nI (i + 1)))] [] := x_up _ (fun i hi ih d1 g1 g2 g3 => by
    refine m_iload_n dX6_heapsOfLength_40 rfl ?_
    refine m_iload_n dX6_heapsOfLength_41 rfl ?_
    first | refine m_icmp_gtN 71 dX6_heapsOfLength_42 (by decide) (by omega) (by omega) (fun c42 => ?_) (fun c42 => ?_) | refine m_icmp_gt 71 dX6_heapsOfLength_42 (by decide) (fun c42 => ?_) (fun c42 => ?_)
    · refine m_iload_n dX6_heapsOfLength_71 rfl ?_
      refine m_if_ltN 94 dX6_heapsOfLength_72 (by decide) (by omega) ?_
      refine m_iload_n dX6_heapsOfLength_75 rfl ?_
      refine m_aload_n dX6_heapsOfLength_76 rfl ?_
      refine m_get fl_X6_16 (by decide) rfl rfl dX6_heapsOfLength_77 ?_
      refine m_alen (by omega) (by first | rfl | exact xcell_arr _ _ _ (by omega) | exact xcell_mv _ _ (by omega) | exact xcell_fo _ _ (by omega) | exact xcell_ne _ _ (by omega)) (by decide) dX6_heapsOfLength_80 ?_
      first | refine m_icmp_geN 94 dX6_heapsOfLength_81 (by decide) (by omega) (by omega) (fun c81 => by exfalso; omega) (fun c81 => ?_) | refine m_icmp_ge 94 dX6_heapsOfLength_81 (by decide) (fun c81 => by exfalso; omega) (fun c81 => ?_)
      refine m_aload_n dX6_heapsOfLength_84 rfl ?_
      refine m_get fl_X6_16 (by decide) rfl rfl dX6_heapsOfLength_85 ?_
      refine m_iload_n dX6_heapsOfLength_88 rfl ?_
      have e6 : i = n := by omega
      subst e6
      refine m_lald (by first | exact ⟨by decide, by decide, fun _ => rfl⟩ | exact isL_fo _ (by omega)) (by omega) dX6_heapsOfLength_89 ?_
      refine m_eql (g2 i (Nat.le_refl _)) ?_
      first | refine m_l2iN dX6_heapsOfLength_90 ?_ | refine m_l2i dX6_heapsOfLength_90 ?_
      refine m_goto 95 dX6_heapsOfLength_91 (by decide) ?_
      exact m_iret (ty := .int) hR dX6_heapsOfLength_95 (⟨rfl, g3⟩)
    · refine m_iload_n dX6_heapsOfLength_45 rfl ?_
      refine m_aload_n dX6_heapsOfLength_46 rfl ?_
      refine m_get fl_X6_16 (by decide) rfl rfl dX6_heapsOfLength_47 ?_
      refine m_alen (by omega) (by first | rfl | exact xcell_arr _ _ _ (by omega) | exact xcell_mv _ _ (by omega) | exact xcell_fo _ _ (by omega) | exact xcell_ne _ _ (by omega)) (by decide) dX6_heapsOfLength_50 ?_
      first | refine m_icmp_geN 71 dX6_heapsOfLength_51 (by decide) (by omega) (by omega) (fun c51 => by exfalso; omega) (fun c51 => ?_) | refine m_icmp_ge 71 dX6_heapsOfLength_51 (by decide) (fun c51 => by exfalso; omega) (fun c51 => ?_)
      refine m_aload_n dX6_heapsOfLength_54 rfl ?_
      refine m_get fl_X6_16 (by decide) rfl rfl dX6_heapsOfLength_55 ?_
      refine m_iload_n dX6_heapsOfLength_58 rfl ?_
      refine m_aload_n dX6_heapsOfLength_59 rfl ?_
      refine m_iload_n dX6_heapsOfLength_60 rfl ?_
      refine m_callVLp (s_X6_sumOverSets (n := i) (by omega) g1 g2) cv_X6_45 dX6_heapsOfLength_61 ?_
      refine m_last (by first | exact ⟨by decide, by decide, fun _ => rfl⟩ | exact isL_fo _ (by omega)) (by omega) dX6_heapsOfLength_64 ?_
      first | refine m_iincN 1 dX6_heapsOfLength_65 (by decide) rfl rfl ?_ | refine m_iinc dX6_heapsOfLength_65 rfl rfl ?_
      refine m_goto 40 dX6_heapsOfLength_68 (by decide) ?_
      refine ih (by omega) _ g1 (fun q hq => ?_) (g3.seL (by simp))
      by_cases e : q = i + 1
      · subst e; exact seL_s' _ _ _ _
      · exact (seL_n _ _ e).trans (g2 q (by omega))
    )
  have loop1 : ∀ i, i ≤ 7 → ∀ d1, (∀ c, c < i → d1.1 65 c = nI (tgs k fb c) ∧ tgs k fb c ≤ 64) → chg [64, 65] d d1 → mG W K cX6_heapsOfLength RX6 (dep + 3) d1 2 [some (.ref (xad W 62)), some (.int (nI n)), some (.int (nI i))] [] := x_up _ (fun i hi ih d1 g1 g2 => by
    have hl1 : letIs d1 k fb := h.fr g2 (by simp) (by simp)
    have htl : tgs k fb i ≤ 64 := Nat.le_trans (togs_le k fb i (2 ^ k)) (by omega)
    refine m_iload_n dX6_heapsOfLength_2 rfl ?_
    refine m_aload_n dX6_heapsOfLength_3 rfl ?_
    refine m_get fl_X6_20 (by decide) rfl rfl dX6_heapsOfLength_4 ?_
    refine m_alen (by omega) (by first | rfl | exact xcell_arr _ _ _ (by omega) | exact xcell_mv _ _ (by omega) | exact xcell_fo _ _ (by omega) | exact xcell_ne _ _ (by omega)) (by decide) dX6_heapsOfLength_7 ?_
    first | refine m_icmp_geN 31 dX6_heapsOfLength_8 (by decide) (by omega) (by omega) (fun c8 => ?_) (fun c8 => ?_) | refine m_icmp_ge 31 dX6_heapsOfLength_8 (by decide) (fun c8 => ?_) (fun c8 => ?_)
    · refine m_aload_n dX6_heapsOfLength_31 rfl ?_
      refine m_get fl_X6_16 (by decide) rfl rfl dX6_heapsOfLength_32 ?_
      refine m_iconstN 0 dX6_heapsOfLength_35 (by decide) ?_
      refine m_lconstN 1 dX6_heapsOfLength_36 (by decide) ?_
      refine m_last (by first | exact ⟨by decide, by decide, fun _ => rfl⟩ | exact isL_fo _ (by omega)) (by omega) dX6_heapsOfLength_37 ?_
      refine m_iconstN 1 dX6_heapsOfLength_38 (by decide) ?_
      refine m_istore_n dX6_heapsOfLength_39 (Nat.le_of_ble_eq_true rfl) rfl ?_
      have e6 : i = 7 := by omega
      subst e6
      refine loop2 0 (Nat.zero_le _) _ g1 (fun q hq => ?_) (g2.seL (by simp))
      rw [show q = 0 by omega]
      exact seL_s' _ _ _ _
    · refine m_aload_n dX6_heapsOfLength_11 rfl ?_
      refine m_get fl_X6_20 (by decide) rfl rfl dX6_heapsOfLength_12 ?_
      refine m_iload_n dX6_heapsOfLength_15 rfl ?_
      refine m_aload_n dX6_heapsOfLength_16 rfl ?_
      refine m_get fl_X6_32 (by decide) rfl rfl dX6_heapsOfLength_17 ?_
      refine m_iload_n dX6_heapsOfLength_20 rfl ?_
      refine m_callVIp (s_X3_setsTogether hl1 (n := i) (by omega)) cv_X6_42 dX6_heapsOfLength_21 ?_
      refine m_iast (by first | exact ⟨by decide, by decide, fun _ => rfl⟩ | exact isI_arr _ (by omega) | exact isI_mv _ (by omega) | exact isI_ne _ (by omega)) (by omega) dX6_heapsOfLength_24 ?_
      first | refine m_iincN 1 dX6_heapsOfLength_25 (by decide) rfl rfl ?_ | refine m_iinc dX6_heapsOfLength_25 rfl rfl ?_
      refine m_goto 2 dX6_heapsOfLength_28 (by decide) ?_
      refine ih (by omega) _ (fun c hc => ?_) (g2.se (by simp))
      by_cases e : c = i
      · subst e; exact ⟨se_s _ _ _ _, htl⟩
      · exact ⟨se_e2 (g1 c (by omega)).1 e, (g1 c (by omega)).2⟩
    )
  refine m_iconstN 0 dX6_heapsOfLength_0 (by decide) ?_
  refine m_istore_n dX6_heapsOfLength_1 (Nat.le_of_ble_eq_true rfl) rfl ?_
  exact loop1 0 (Nat.zero_le _) d (fun c hc => absurd hc (Nat.not_lt_zero c)) chg.rf
end ORD
