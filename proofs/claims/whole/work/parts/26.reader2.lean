/-! class Reader: how many heaps it takes -/
/-- one row of the now-table goes on by the letters below i -/
def goF (fb : Nat → Nat) (mv : Nat → Nat → Nat) (T : Nat → Nat) (b s : Nat) : Nat → (Nat → Nat) → (Nat → Nat)
  | 0, U => U
  | i + 1, U => if b.testBit i = true then goF fb mv T b s i U else fun a => if a = bar fb b i * 5 + mv s i then (goF fb mv T b s i U a + T (b * 5 + s)) % 1000000007 else goF fb mv T b s i U a
theorem goF_s (fb : Nat → Nat) (mv : Nat → Nat → Nat) (T : Nat → Nat) (b s i : Nat) (U : Nat → Nat) : goF fb mv T b s (i + 1) U = if b.testBit i = true then goF fb mv T b s i U else fun a => if a = bar fb b i * 5 + mv s i then (goF fb mv T b s i U a + T (b * 5 + s)) % 1000000007 else goF fb mv T b s i U a := rfl
def goG (k : Nat) (fb : Nat → Nat) (mv : Nat → Nat → Nat) (T : Nat → Nat) (b s : Nat) (U : Nat → Nat) : Nat → Nat := if T (b * 5 + s) = 0 then U else goF fb mv T b s k U
def stS (k : Nat) (fb : Nat → Nat) (mv : Nat → Nat → Nat) (T : Nat → Nat) (b : Nat) : Nat → (Nat → Nat) → (Nat → Nat)
  | 0, U => U
  | s + 1, U => goG k fb mv T b s (stS k fb mv T b s U)
theorem stS_s (k : Nat) (fb : Nat → Nat) (mv : Nat → Nat → Nat) (T : Nat → Nat) (b s : Nat) (U : Nat → Nat) : stS k fb mv T b (s + 1) U = goG k fb mv T b s (stS k fb mv T b s U) := rfl
def stA (k sts : Nat) (fb : Nat → Nat) (mv : Nat → Nat → Nat) (T : Nat → Nat) : Nat → (Nat → Nat)
  | 0 => fun _ => 0
  | b + 1 => stS k fb mv T b sts (stA k sts fb mv T b)
theorem stA_s (k sts : Nat) (fb : Nat → Nat) (mv : Nat → Nat → Nat) (T : Nat → Nat) (b : Nat) : stA k sts fb mv T (b + 1) = stS k fb mv T b sts (stA k sts fb mv T b) := rfl
def tkT (k sts : Nat) (fb : Nat → Nat) (mv : Nat → Nat → Nat) : Nat → (Nat → Nat)
  | 0 => fun a => if a = 0 then 1 else 0
  | n + 1 => stA k sts fb mv (tkT k sts fb mv n) (2 ^ k)
theorem tkT_s (k sts : Nat) (fb : Nat → Nat) (mv : Nat → Nat → Nat) (n : Nat) : tkT k sts fb mv (n + 1) = stA k sts fb mv (tkT k sts fb mv n) (2 ^ k) := rfl
def smT (sts tb : Nat) (T : Nat → Nat) (n : Nat) : Nat := ((List.range n).map (fun a => if a % 5 < sts ∧ tb.testBit (a % 5) = true then T a else 0)).sum
theorem smT_s (sts tb : Nat) (T : Nat → Nat) (n : Nat) : smT sts tb T (n + 1) = smT sts tb T n + (if n % 5 < sts ∧ tb.testBit (n % 5) = true then T n else 0) := by
  unfold smT
  rw [List.range_succ, List.map_append, List.sum_append]
  simp
theorem isI_nt (W : xW) {z : Nat} (h : z ≤ 1) : isI W (z + 68) 320 := by
  rcases Nat.lt_or_ge z 1 with e | e
  · rw [show z = 0 by omega]; exact ⟨by decide, by decide, fun _ => rfl⟩
  · rw [show z = 1 by omega]; exact ⟨by decide, by decide, fun _ => rfl⟩
/-- cell o holds the table T -/
def arI (d : xD) (o : Nat) (T : Nat → Nat) : Prop := ∀ a, a < 320 → d.1 o a = nI (T a) ∧ T a < 1000000007
theorem arI.fr {S : List Nat} {d d' : xD} {o : Nat} {T : Nat → Nat} (h : arI d o T) (hc : chg S d d') (ho : o ∉ S) : arI d' o T := fun a ha => by rw [(hc o ho).1]; exact h a ha
section RDR
variable {l : Launch} {W : xW} {dep : Nat} {d : xD} {k sts tb z : Nat} {fb : Nat → Nat} {mv : Nat → Nat → Nat} {j : Nat} {xs ys : List Nat} {T U : Nat → Nat}
theorem s_X8_goOnFrom (hl : letIs d k fb) (h : rdIs d sts tb mv) (hz : ptIs d z) (hT : arI d (z + 68) T) (hU : arI d (1 - z + 68) U) {b s : Nat} (hb : b < 2 ^ k) (hs : s < sts) : mSpecV l W mX8_goOnFrom (dep + 2) [.ref (xad W 66), .int (nI b), .int (nI s)] d (fun d' => arI d' (1 - z + 68) (goG k fb mv T b s U) ∧ chg [1 - z + 68] d d') := by
  have h5 := h.2.2.2.1
  have hk := hl.2.2.2.1
  have hz1 := hz.1
  have h2 : 2 ^ k ≤ 2 ^ 6 := Nat.pow_le_pow_right (by decide) hk
  have hTa := hT (b * 5 + s) (by omega)
  refine m_spec RX8 [some (.ref (xad W 66)), some (.int (nI b)), some (.int (nI s)), none, none, none] rfl (by decide +kernel) rfl rfl (fun K hR => ?_)
  have loop : T (b * 5 + s) ≠ 0 → ∀ i, i ≤ k → ∀ d1 o5, arI d1 (1 - z + 68) (goF fb mv T b s i U) → chg [1 - z + 68] d d1 → mG W K cX8_goOnFrom RX8 (dep + 2) d1 32 [some (.ref (xad W 66)), some (.int (nI b)), some (.int (nI s)), some (.int (nI (b * 5 + s))), some (.int (nI i)), o5] [] := fun hne => x_up _ (fun i hi ih d1 o5 g1 g2 => by
    have hl1 : letIs d1 k fb := hl.fr g2 (by simp) (by simp)
    have h1 : rdIs d1 sts tb mv := h.fr g2 (fun o ho => by simp at ho; omega)
    have hz2 : ptIs d1 z := hz.fr g2 (by simp)
    have hT1 : arI d1 (z + 68) T := hT.fr g2 (by simp; omega)
    have hT1a := hT1 (b * 5 + s) (by omega)
    refine m_iload dX8_goOnFrom_32 rfl ?_
    refine m_aload_n dX8_goOnFrom_34 rfl ?_
    refine m_get fl_X8_30 (by decide) rfl rfl dX8_goOnFrom_35 ?_
    refine m_callVIp (s_X3_size hl1) cv_X8_48 dX8_goOnFrom_38 ?_
    first | refine m_icmp_geN 120 dX8_goOnFrom_41 (by decide) (by omega) (by omega) (fun c41 => ?_) (fun c41 => ?_) | refine m_icmp_ge 120 dX8_goOnFrom_41 (by decide) (fun c41 => ?_) (fun c41 => ?_)
    · have e6 : i = k := by omega
      subst e6
      exact m_vret hR dX8_goOnFrom_120 (⟨by unfold goG; rw [if_neg hne]; exact g1, g2⟩)
    · refine m_iload_n dX8_goOnFrom_44 rfl ?_
      refine m_iload dX8_goOnFrom_45 rfl ?_
      refine m_ishr dX8_goOnFrom_47 ?_
      refine m_iconstN 1 dX8_goOnFrom_48 (by decide) ?_
      refine m_iand dX8_goOnFrom_49 ?_
      refine m_eqi (nI_bit (by omega) (by omega)) ?_
      have hb2 : (b.testBit i).toNat < 2 := Bool.toNat_lt _
      first | refine m_if_neN 114 dX8_goOnFrom_50 (by decide) (by omega) (fun c50 => ?_) (fun c50 => ?_) | refine m_if_ne 114 dX8_goOnFrom_50 (by decide) (fun c50 => ?_) (fun c50 => ?_)
      · first | refine m_iincN 1 dX8_goOnFrom_114 (by decide) rfl rfl ?_ | refine m_iinc dX8_goOnFrom_114 rfl rfl ?_
        refine m_goto 32 dX8_goOnFrom_117 (by decide) ?_
        refine ih (by omega) d1 _ ?_ g2
        rw [goF_s, if_pos (by cases hc : b.testBit i <;> simp_all)]
        exact g1
      · refine m_aload_n dX8_goOnFrom_53 rfl ?_
        refine m_get fl_X8_34 (by decide) rfl rfl dX8_goOnFrom_54 ?_
        refine m_iload_n dX8_goOnFrom_57 rfl ?_
        refine m_iload dX8_goOnFrom_58 rfl ?_
        refine m_callVIp (s_X6_barredBehind hl1 (b := b) (x := i) (by omega)) cv_X8_85 dX8_goOnFrom_60 ?_
        refine m_iconstN 5 dX8_goOnFrom_63 (by decide) ?_
        first | refine m_imulN dX8_goOnFrom_64 ?_ | refine m_imul dX8_goOnFrom_64 ?_
        refine m_aload_n dX8_goOnFrom_65 rfl ?_
        refine m_iload_n dX8_goOnFrom_66 rfl ?_
        refine m_iload dX8_goOnFrom_67 rfl ?_
        refine m_callVIp (s_X8_next h1 (s := s) (p := i) (by omega) (by omega)) cv_X8_62 dX8_goOnFrom_69 ?_
        first | refine m_iaddN dX8_goOnFrom_72 ?_ | refine m_iadd dX8_goOnFrom_72 ?_
        have hbl := bar_lt hl.2.2 (show i < 6 by omega) b
        have hml := h.2.2.2.2.2.2 s hs i (by omega)
        have hg := g1 (bar fb b i * 5 + mv s i) (by omega)
        refine m_istore dX8_goOnFrom_73 (Nat.le_of_ble_eq_true rfl) rfl ?_
        refine m_iload dX8_goOnFrom_75 rfl ?_
        refine m_if_ltN 114 dX8_goOnFrom_77 (by decide) (by omega) ?_
        refine m_iload dX8_goOnFrom_80 rfl ?_
        refine m_aload_n dX8_goOnFrom_82 rfl ?_
        refine m_get fl_X8_20 (by decide) rfl rfl dX8_goOnFrom_83 ?_
        refine m_eqr hz2.then ?_
        refine m_alen (isI_nt W (z := 1 - z) (by omega)).1 ((isI_nt W (z := 1 - z) (by omega)).2.2 _) (by decide) dX8_goOnFrom_86 ?_
        first | refine m_icmp_geN 114 dX8_goOnFrom_87 (by decide) (by omega) (by omega) (fun c87 => by exfalso; omega) (fun c87 => ?_) | refine m_icmp_ge 114 dX8_goOnFrom_87 (by decide) (fun c87 => by exfalso; omega) (fun c87 => ?_)
        refine m_aload_n dX8_goOnFrom_90 rfl ?_
        refine m_get fl_X8_20 (by decide) rfl rfl dX8_goOnFrom_91 ?_
        refine m_eqr hz2.then ?_
        refine m_iload dX8_goOnFrom_94 rfl ?_
        refine m_aload_n dX8_goOnFrom_96 rfl ?_
        refine m_get fl_X8_20 (by decide) rfl rfl dX8_goOnFrom_97 ?_
        refine m_eqr hz2.then ?_
        refine m_iload dX8_goOnFrom_100 rfl ?_
        refine m_iald (isI_nt W (z := 1 - z) (by omega)) (by omega) dX8_goOnFrom_102 ?_
        refine m_eqi (hg.1) ?_
        refine m_aload_n dX8_goOnFrom_103 rfl ?_
        refine m_get fl_X8_16 (by decide) rfl rfl dX8_goOnFrom_104 ?_
        refine m_eqr hz2.now ?_
        refine m_iload_n dX8_goOnFrom_107 rfl ?_
        refine m_iald (isI_nt W hz1) (by omega) dX8_goOnFrom_108 ?_
        refine m_eqi (hT1a.1) ?_
        first | refine m_iaddN dX8_goOnFrom_109 ?_ | refine m_iadd dX8_goOnFrom_109 ?_
        refine m_ldc ct_X8_90 dX8_goOnFrom_110 ?_
        refine m_eqi (y := nI 1000000007) (by decide +kernel) ?_
        first | refine m_iremN dX8_goOnFrom_112 (by omega) (by omega) (by omega) ?_ | refine m_irem dX8_goOnFrom_112 (by decide) ?_
        refine m_iast (isI_nt W (z := 1 - z) (by omega)) (by omega) dX8_goOnFrom_113 ?_
        first | refine m_iincN 1 dX8_goOnFrom_114 (by decide) rfl rfl ?_ | refine m_iinc dX8_goOnFrom_114 rfl rfl ?_
        refine m_goto 32 dX8_goOnFrom_117 (by decide) ?_
        refine ih (by omega) _ _ (fun a ha => ?_) (g2.se (by simp))
        rw [goF_s, if_neg (by cases hc : b.testBit i <;> simp_all)]
        by_cases e : a = bar fb b i * 5 + mv s i
        · rw [if_pos e, e]
          exact ⟨se_s _ _ _ _, Nat.mod_lt _ (by decide)⟩
        · rw [if_neg e]
          exact ⟨se_e2 (g1 a ha).1 e, (g1 a ha).2⟩
    )
  refine m_iload_n dX8_goOnFrom_0 rfl ?_
  refine m_iconstN 5 dX8_goOnFrom_1 (by decide) ?_
  first | refine m_imulN dX8_goOnFrom_2 ?_ | refine m_imul dX8_goOnFrom_2 ?_
  refine m_iload_n dX8_goOnFrom_3 rfl ?_
  first | refine m_iaddN dX8_goOnFrom_4 ?_ | refine m_iadd dX8_goOnFrom_4 ?_
  refine m_istore_n dX8_goOnFrom_5 (Nat.le_of_ble_eq_true rfl) rfl ?_
  refine m_iload_n dX8_goOnFrom_6 rfl ?_
  refine m_if_ltN 28 dX8_goOnFrom_7 (by decide) (by omega) ?_
  refine m_iload_n dX8_goOnFrom_10 rfl ?_
  refine m_aload_n dX8_goOnFrom_11 rfl ?_
  refine m_get fl_X8_16 (by decide) rfl rfl dX8_goOnFrom_12 ?_
  refine m_eqr hz.now ?_
  refine m_alen (isI_nt W hz1).1 ((isI_nt W hz1).2.2 _) (by decide) dX8_goOnFrom_15 ?_
  first | refine m_icmp_geN 28 dX8_goOnFrom_16 (by decide) (by omega) (by omega) (fun c16 => by exfalso; omega) (fun c16 => ?_) | refine m_icmp_ge 28 dX8_goOnFrom_16 (by decide) (fun c16 => by exfalso; omega) (fun c16 => ?_)
  refine m_aload_n dX8_goOnFrom_19 rfl ?_
  refine m_get fl_X8_16 (by decide) rfl rfl dX8_goOnFrom_20 ?_
  refine m_eqr hz.now ?_
  refine m_iload_n dX8_goOnFrom_23 rfl ?_
  refine m_iald (isI_nt W hz1) (by omega) dX8_goOnFrom_24 ?_
  refine m_eqi (hTa.1) ?_
  first | refine m_if_neN 29 dX8_goOnFrom_25 (by decide) (by omega) (fun c25 => ?_) (fun c25 => ?_) | refine m_if_ne 29 dX8_goOnFrom_25 (by decide) (fun c25 => ?_) (fun c25 => ?_)
  · refine m_iconstN 0 dX8_goOnFrom_29 (by decide) ?_
    refine m_istore dX8_goOnFrom_30 (Nat.le_of_ble_eq_true rfl) rfl ?_
    exact loop (by omega) 0 (Nat.zero_le _) d _ hU chg.rf
  · exact m_vret hR dX8_goOnFrom_28 (⟨by unfold goG; rw [if_pos (by omega)]; exact hU, chg.rf⟩)
theorem smT_le {T : Nat → Nat} (hT : ∀ a, a < 320 → T a < 1000000007) (sts tb : Nat) : ∀ n, n ≤ 320 → smT sts tb T n ≤ n * 1000000007 := by
  intro n
  induction n with
  | zero => intro _; exact Nat.zero_le _
  | succ n ih =>
    intro hn
    rw [smT_s]
    have h1 := hT n (by omega)
    have h2 := ih (by omega)
    have h3 : (if n % 5 < sts ∧ tb.testBit (n % 5) = true then T n else 0) ≤ T n := by
      by_cases e : n % 5 < sts ∧ tb.testBit (n % 5) = true
      · rw [if_pos e]; exact Nat.le_refl _
      · rw [if_neg e]; exact Nat.zero_le _
    generalize (if n % 5 < sts ∧ tb.testBit (n % 5) = true then T n else 0) = y at *
    rw [Nat.succ_mul]
    omega
theorem s_X8_sumTaken (h : rdIs d sts tb mv) (hz : ptIs d z) (hT : arI d (z + 68) T) : mSpecI l W mX8_sumTaken (dep + 2) [.ref (xad W 66)] d (fun r d' => r = nI (smT sts tb T 320 % 1000000007) ∧ d' = d) := by
  have h5 := h.2.2.2.1
  have hz1 := hz.1
  have hb := smT_le (T := T) (fun a ha => (hT a ha).2) sts tb 320 (Nat.le_refl _)
  refine m_spec RX8 [some (.ref (xad W 66)), none, none, none] rfl (by decide +kernel) rfl rfl (fun K hR => ?_)
  have loop : ∀ i, i ≤ 320 → mG W K cX8_sumTaken RX8 (dep + 2) d 4 [some (.ref (xad W 66)), some (.long (lN (smT sts tb T i))), none, some (.int (nI i))] [] := x_up _ (fun i hi ih => by
    refine m_iload_n dX8_sumTaken_4 rfl ?_
    refine m_aload_n dX8_sumTaken_5 rfl ?_
    refine m_get fl_X8_16 (by decide) rfl rfl dX8_sumTaken_6 ?_
    refine m_eqr hz.now ?_
    refine m_alen (isI_nt W hz1).1 ((isI_nt W hz1).2.2 _) (by decide) dX8_sumTaken_9 ?_
    first | refine m_icmp_geN 39 dX8_sumTaken_10 (by decide) (by omega) (by omega) (fun c10 => ?_) (fun c10 => ?_) | refine m_icmp_ge 39 dX8_sumTaken_10 (by decide) (fun c10 => ?_) (fun c10 => ?_)
    · refine m_lload_n dX8_sumTaken_39 rfl ?_
      have e6 : i = 320 := by omega
      subst e6
      refine m_ldc2 ct_X8_94 dX8_sumTaken_40 ?_
      refine m_eql (y := lN 1000000007) (by decide +kernel) ?_
      first | refine m_lremN dX8_sumTaken_43 (by omega) (by omega) (by omega) ?_ | refine m_lrem dX8_sumTaken_43 (by decide) ?_
      first | refine m_l2iN dX8_sumTaken_44 ?_ | refine m_l2i dX8_sumTaken_44 ?_
      exact m_iret (ty := .int) hR dX8_sumTaken_45 (⟨rfl, rfl⟩)
    · refine m_aload_n dX8_sumTaken_13 rfl ?_
      refine m_iload_n dX8_sumTaken_14 rfl ?_
      refine m_iconstN 5 dX8_sumTaken_15 (by decide) ?_
      first | refine m_iremN dX8_sumTaken_16 (by omega) (by omega) (by omega) ?_ | refine m_irem dX8_sumTaken_16 (by decide) ?_
      refine m_callVIp (s_X8_takes h (n := i % 5) (by omega)) cv_X8_91 dX8_sumTaken_17 ?_
      refine m_if_eq 33 dX8_sumTaken_20 (by decide) (fun c20 => ?_) (fun c20 => ?_)
      · first | refine m_iincN 1 dX8_sumTaken_33 (by decide) rfl rfl ?_ | refine m_iinc dX8_sumTaken_33 rfl rfl ?_
        refine m_goto 4 dX8_sumTaken_36 (by decide) ?_
        have e := ih (by omega)
        rw [smT_s, if_neg (fun q => by rw [if_pos q] at c20; exact absurd c20 (by decide)), Nat.add_zero] at e
        exact e
      · refine m_lload_n dX8_sumTaken_23 rfl ?_
        refine m_aload_n dX8_sumTaken_24 rfl ?_
        refine m_get fl_X8_16 (by decide) rfl rfl dX8_sumTaken_25 ?_
        refine m_eqr hz.now ?_
        refine m_iload_n dX8_sumTaken_28 rfl ?_
        refine m_iald (isI_nt W hz1) (by omega) dX8_sumTaken_29 ?_
        refine m_eqi ((hT i (by omega)).1) ?_
        have hTi := (hT i (by omega)).2
        first | refine m_i2lN dX8_sumTaken_30 (by omega) ?_ | refine m_i2l dX8_sumTaken_30 ?_
        first | refine m_laddN dX8_sumTaken_31 ?_ | refine m_ladd dX8_sumTaken_31 ?_
        refine m_lstore_n dX8_sumTaken_32 (Nat.le_of_ble_eq_true rfl) rfl ?_
        first | refine m_iincN 1 dX8_sumTaken_33 (by decide) rfl rfl ?_ | refine m_iinc dX8_sumTaken_33 rfl rfl ?_
        refine m_goto 4 dX8_sumTaken_36 (by decide) ?_
        have e := ih (by omega)
        rw [smT_s, if_pos (Decidable.byContradiction (fun q => c20 (by rw [if_neg q])))] at e
        exact e
    )
  refine m_lconstN 0 dX8_sumTaken_0 (by decide) ?_
  refine m_lstore_n dX8_sumTaken_1 (Nat.le_of_ble_eq_true rfl) rfl ?_
  refine m_iconstN 0 dX8_sumTaken_2 (by decide) ?_
  refine m_istore_n dX8_sumTaken_3 (Nat.le_of_ble_eq_true rfl) rfl ?_
  exact loop 0 (Nat.zero_le _)
theorem xcell_rd (W : xW) (d : xD) {z z' : Nat} (h : (if d.1 66 3 = 0 then 68 else 69) = z) (h' : (if d.1 66 4 = 0 then 68 else 69) = z') : cellOf W d 66 = .inr (8, [.ref (xad W 1), .ref (xad W 62), .ref (xad W 67), .ref (xad W z), .ref (xad W z'), .int (d.1 66 5), .int (d.1 66 6)]) := by
  subst h; subst h'; rfl
theorem nxNow {z : Nat} (h : z ≤ 1) : (if nI (1 - z) = 0 then 68 else 69) = 1 - z + 68 := by
  rcases Nat.lt_or_ge z 1 with e | e
  · rw [show z = 0 by omega]; rfl
  · rw [show z = 1 by omega]; rfl
theorem nxNow2 {z : Nat} (h : z ≤ 1) : (if nI z = 0 then 68 else 69) = z + 68 := by
  rcases Nat.lt_or_ge z 1 with e | e
  · rw [show z = 0 by omega]; rfl
  · rw [show z = 1 by omega]; rfl
def tknC : List Nat := [66, 68, 69]
theorem s_X8_heapsTaken (hl : letIs d k fb) (h : rdIs d sts tb mv) (hz : ptIs d z) {n : Nat} (hn : n < 2 ^ 31) : mSpecI l W mX8_heapsTaken (dep + 3) [.ref (xad W 66), .int (nI n)] d (fun r d' => r = nI (smT sts tb (tkT k sts fb mv n) 320 % 1000000007) ∧ rdIs d' sts tb mv ∧ (∃ z', ptIs d' z') ∧ chg tknC d d') := by
  have h5 := h.2.2.2.1
  have hz1 := hz.1
  have hk := hl.2.2.2.1
  have h2 : 2 ^ k ≤ 2 ^ 6 := Nat.pow_le_pow_right (by decide) hk
  have h20 := Nat.two_pow_pos k
  have hm : ∀ z, z ≤ 1 → z + 68 ∈ tknC := by decide
  refine m_spec RX8 [some (.ref (xad W 66)), some (.int (nI n)), none, none, none, none] rfl (by decide +kernel) rfl rfl (fun K hR => ?_)
  have inner : ∀ z, z ≤ 1 → ∀ t b, t < n → b < 2 ^ k → (∀ d1 o5, rdIs d1 sts tb mv → ptIs d1 z → arI d1 (z + 68) (tkT k sts fb mv t) → arI d1 (1 - z + 68) (stA k sts fb mv (tkT k sts fb mv t) (b + 1)) → chg tknC d d1 → mG W K cX8_heapsTaken RX8 (dep + 3) d1 41 [some (.ref (xad W 66)), some (.int (nI n)), some (.int (nI (2 ^ k - 1))), some (.int (nI t)), some (.int (nI (b + 1))), o5] []) → ∀ s, s ≤ sts → ∀ d1, rdIs d1 sts tb mv → ptIs d1 z → arI d1 (z + 68) (tkT k sts fb mv t) → arI d1 (1 - z + 68) (stS k fb mv (tkT k sts fb mv t) b s (stA k sts fb mv (tkT k sts fb mv t) b)) → chg tknC d d1 → mG W K cX8_heapsTaken RX8 (dep + 3) d1 50 [some (.ref (xad W 66)), some (.int (nI n)), some (.int (nI (2 ^ k - 1))), some (.int (nI t)), some (.int (nI b)), some (.int (nI s))] [] := fun z hz1 t b ht hb done => x_up _ (fun s hs ih d1 g1 g2 g3 g4 g5 => by
    have hl1 : letIs d1 k fb := hl.fr g5 (by simp [tknC]) (by simp [tknC])
    refine m_iload dX8_heapsTaken_50 rfl ?_
    refine m_aload_n dX8_heapsTaken_52 rfl ?_
    refine m_get fl_X8_23 (by decide) rfl rfl dX8_heapsTaken_53 ?_
    refine m_eqi (g1.1) ?_
    first | refine m_icmp_geN 73 dX8_heapsTaken_56 (by decide) (by omega) (by omega) (fun c56 => ?_) (fun c56 => ?_) | refine m_icmp_ge 73 dX8_heapsTaken_56 (by decide) (fun c56 => ?_) (fun c56 => ?_)
    · first | refine m_iincN 1 dX8_heapsTaken_73 (by decide) rfl rfl ?_ | refine m_iinc dX8_heapsTaken_73 rfl rfl ?_
      refine m_goto 41 dX8_heapsTaken_76 (by decide) ?_
      have e6 : s = sts := by omega
      subst e6
      exact done d1 _ g1 g2 g3 (by rw [stA_s]; exact g4) g5
    · refine m_aload_n dX8_heapsTaken_59 rfl ?_
      refine m_iload dX8_heapsTaken_60 rfl ?_
      refine m_iload dX8_heapsTaken_62 rfl ?_
      refine m_callVV (s_X8_goOnFrom hl1 g1 g2 g3 g4 hb (s := s) (by omega)) cv_X8_78 dX8_heapsTaken_64 (fun d64 h64 => ?_)
      first | refine m_iincN 1 dX8_heapsTaken_67 (by decide) rfl rfl ?_ | refine m_iinc dX8_heapsTaken_67 rfl rfl ?_
      refine m_goto 50 dX8_heapsTaken_70 (by decide) ?_
      refine ih (by omega) d64 (g1.fr h64.2 (fun o ho => by simp at ho; omega)) (g2.fr h64.2 (by simp)) (g3.fr h64.2 (by simp <;> omega)) ?_ (g5.tr (h64.2.mono (by simpa using hm (1 - z) (by omega))))
      rw [stS_s]
      exact h64.1
    )
  have mid : ∀ z, z ≤ 1 → ∀ t, t < n → (∀ d1 o4 o5, rdIs d1 sts tb mv → ptIs d1 (1 - z) → arI d1 (1 - z + 68) (tkT k sts fb mv (t + 1)) → chg tknC d d1 → mG W K cX8_heapsTaken RX8 (dep + 3) d1 25 [some (.ref (xad W 66)), some (.int (nI n)), some (.int (nI (2 ^ k - 1))), some (.int (nI (t + 1))), o4, o5] []) → ∀ b, b ≤ 2 ^ k → ∀ d1 o5, rdIs d1 sts tb mv → ptIs d1 z → arI d1 (z + 68) (tkT k sts fb mv t) → arI d1 (1 - z + 68) (stA k sts fb mv (tkT k sts fb mv t) b) → chg tknC d d1 → mG W K cX8_heapsTaken RX8 (dep + 3) d1 41 [some (.ref (xad W 66)), some (.int (nI n)), some (.int (nI (2 ^ k - 1))), some (.int (nI t)), some (.int (nI b)), o5] [] := fun z hz1 t ht done => x_up _ (fun b hb ih d1 o5 g1 g2 g3 g4 g5 => by
    refine m_iload dX8_heapsTaken_41 rfl ?_
    refine m_iload_n dX8_heapsTaken_43 rfl ?_
    first | refine m_icmp_gtN 79 dX8_heapsTaken_44 (by decide) (by omega) (by omega) (fun c44 => ?_) (fun c44 => ?_) | refine m_icmp_gt 79 dX8_heapsTaken_44 (by decide) (fun c44 => ?_) (fun c44 => ?_)
    · refine m_aload_n dX8_heapsTaken_79 rfl ?_
      refine m_get fl_X8_16 (by decide) (xcell_rd W d1 g2.now g2.then) rfl dX8_heapsTaken_80 ?_
      refine m_astore dX8_heapsTaken_83 (Nat.le_of_ble_eq_true rfl) rfl ?_
      refine m_aload_n dX8_heapsTaken_85 rfl ?_
      refine m_aload_n dX8_heapsTaken_86 rfl ?_
      refine m_get fl_X8_20 (by decide) (xcell_rd W d1 g2.now g2.then) rfl dX8_heapsTaken_87 ?_
      refine m_putR (nI (1 - z)) fl_X8_16 (by decide) (xcell_rd W d1 g2.now g2.then) (Nat.le_of_ble_eq_true rfl) (xcell_rd W (seI d1 66 3 (nI (1 - z))) (z := 1 - z + 68) (z' := 1 - z + 68) (by rw [se_s]; exact nxNow hz1) (by rw [se_n _ _ (by decide)]; exact g2.then)) dX8_heapsTaken_90 ?_
      refine m_aload_n dX8_heapsTaken_93 rfl ?_
      refine m_aload dX8_heapsTaken_94 rfl ?_
      refine m_putR (nI z) fl_X8_20 (by decide) (xcell_rd W (seI d1 66 3 (nI (1 - z))) (z := 1 - z + 68) (z' := 1 - z + 68) (by rw [se_s]; exact nxNow hz1) (by rw [se_n _ _ (by decide)]; exact g2.then)) (Nat.le_of_ble_eq_true rfl) (xcell_rd W (seI (seI d1 66 3 (nI (1 - z))) 66 4 (nI z)) (z := 1 - z + 68) (z' := z + 68) (by rw [se_n _ _ (by decide), se_s]; exact nxNow hz1) (by rw [se_s]; exact nxNow2 hz1)) dX8_heapsTaken_96 ?_
      first | refine m_iincN 1 dX8_heapsTaken_99 (by decide) rfl rfl ?_ | refine m_iinc dX8_heapsTaken_99 rfl rfl ?_
      refine m_goto 25 dX8_heapsTaken_102 (by decide) ?_
      have e6 : b = 2 ^ k := by omega
      subst e6
      have hc : chg [66] d1 (seI (seI d1 66 3 (nI (1 - z))) 66 4 (nI z)) := (chg.rf.se (by simp)).se (by simp)
      refine done _ _ _ ⟨?_, ?_, g1.2.2.1, g1.2.2.2.1, g1.2.2.2.2.1, fun s hs p hp => ?_, g1.2.2.2.2.2.2⟩ ⟨by omega, se_e2 (se_s _ _ _ _) (by decide), ?_⟩ (g4.fr hc (by simp <;> omega)) (g5.tr (hc.mono (by simp [tknC])))
      · exact se_e2 (se_e2 g1.1 (by decide)) (by decide)
      · exact se_e2 (se_e2 g1.2.1 (by decide)) (by decide)
      · exact se_e (se_e (g1.2.2.2.2.2.1 s hs p hp) (by omega)) (by omega)
      · rw [show 1 - (1 - z) = z by omega]; exact se_s _ _ _ _
    · refine m_iconstN 0 dX8_heapsTaken_47 (by decide) ?_
      refine m_istore dX8_heapsTaken_48 (Nat.le_of_ble_eq_true rfl) rfl ?_
      exact inner z hz1 t b ht (by omega) (fun d2 o5 => ih (by omega) d2 o5) 0 (Nat.zero_le _) d1 g1 g2 g3 g4 g5
    )
  have outer : ∀ t, t ≤ n → ∀ z, z ≤ 1 → ∀ d1 o4 o5, rdIs d1 sts tb mv → ptIs d1 z → arI d1 (z + 68) (tkT k sts fb mv t) → chg tknC d d1 → mG W K cX8_heapsTaken RX8 (dep + 3) d1 25 [some (.ref (xad W 66)), some (.int (nI n)), some (.int (nI (2 ^ k - 1))), some (.int (nI t)), o4, o5] [] := x_up _ (fun t ht ih z hz1 d1 o4 o5 g1 g2 g3 g4 => by
    refine m_iload_n dX8_heapsTaken_25 rfl ?_
    refine m_iload_n dX8_heapsTaken_26 rfl ?_
    first | refine m_icmp_geN 105 dX8_heapsTaken_27 (by decide) (by omega) (by omega) (fun c27 => ?_) (fun c27 => ?_) | refine m_icmp_ge 105 dX8_heapsTaken_27 (by decide) (fun c27 => ?_) (fun c27 => ?_)
    · refine m_aload_n dX8_heapsTaken_105 rfl ?_
      have e6 : t = n := by omega
      subst e6
      refine m_callVIp (s_X8_sumTaken g1 g2 g3) cv_X8_82 dX8_heapsTaken_106 ?_
      exact m_iret (ty := .int) hR dX8_heapsTaken_109 (⟨rfl, g1, ⟨z, g2⟩, g4⟩)
    · refine m_aload_n dX8_heapsTaken_30 rfl ?_
      refine m_get fl_X8_20 (by decide) rfl rfl dX8_heapsTaken_31 ?_
      refine m_eqr g2.then ?_
      refine m_iconstN 0 dX8_heapsTaken_34 (by decide) ?_
      refine m_callSV (s_J7_fillI (isI_nt W (z := 1 - z) (by omega)) (nI 0)) cs_X8_38 dX8_heapsTaken_35 (fun d35 h35 => ?_)
      refine m_iconstN 0 dX8_heapsTaken_38 (by decide) ?_
      refine m_istore dX8_heapsTaken_39 (Nat.le_of_ble_eq_true rfl) rfl ?_
      refine mid z hz1 t (by omega) (fun d2 o4 o5 q1 q2 q3 q4 => ih (by omega) (1 - z) (by omega) d2 o4 o5 q1 q2 q3 q4) 0 (Nat.zero_le _) d35 _ (g1.fr h35.2 (fun o ho => by simp at ho; omega)) (g2.fr h35.2 (by simp)) (g3.fr h35.2 (by simp <;> omega)) (fun a ha => ⟨h35.1 a ha, show 0 < 1000000007 by decide⟩) (g4.tr (h35.2.mono (by simpa using hm (1 - z) (by omega))))
    )
  refine m_aload_n dX8_heapsTaken_0 rfl ?_
  refine m_get fl_X8_30 (by decide) rfl rfl dX8_heapsTaken_1 ?_
  refine m_callVIp (s_X3_allBits hl) cv_X8_75 dX8_heapsTaken_4 ?_
  refine m_istore_n dX8_heapsTaken_7 (Nat.le_of_ble_eq_true rfl) rfl ?_
  refine m_aload_n dX8_heapsTaken_8 rfl ?_
  refine m_get fl_X8_16 (by decide) rfl rfl dX8_heapsTaken_9 ?_
  refine m_eqr hz.now ?_
  refine m_iconstN 0 dX8_heapsTaken_12 (by decide) ?_
  refine m_callSV (s_J7_fillI (isI_nt W hz1) (nI 0)) cs_X8_38 dX8_heapsTaken_13 (fun d13 h13 => ?_)
  refine m_aload_n dX8_heapsTaken_16 rfl ?_
  refine m_get fl_X8_16 (by decide) rfl rfl dX8_heapsTaken_17 ?_
  refine m_eqr (hz.fr h13.2 (by simp)).now ?_
  refine m_iconstN 0 dX8_heapsTaken_20 (by decide) ?_
  refine m_iconstN 1 dX8_heapsTaken_21 (by decide) ?_
  refine m_iast (isI_nt W hz1) (by decide) dX8_heapsTaken_22 ?_
  refine m_iconstN 0 dX8_heapsTaken_23 (by decide) ?_
  refine m_istore_n dX8_heapsTaken_24 (Nat.le_of_ble_eq_true rfl) rfl ?_
  have hc : chg [z + 68] d (seI d13 (z + 68) 0 (nI 1)) := h13.2.se (by simp)
  refine outer 0 (Nat.zero_le _) z hz1 _ _ _ (h.fr hc (fun o ho => by simp at ho; omega)) (hz.fr hc (by simp)) (fun a ha => ?_) (hc.mono (by simpa using hm z hz1))
  show _ = nI (if a = 0 then 1 else 0) ∧ (if a = 0 then 1 else 0) < 1000000007
  by_cases e : a = 0
  · subst e; exact ⟨se_s _ _ _ _, by decide⟩
  · rw [if_neg e]; exact ⟨se_e2 (h13.1 a ha) e, by decide⟩
end RDR
