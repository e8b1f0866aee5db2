/-! the law's model: what must come ahead of what -/
theorem must_s {B : Nat → Nat} {xs : List Nat} {i t : Nat} : must B xs i (i + 1 + t) = (hbF B xs i t).testBit (xs.getD (i + 1 + t) 0) := by
  unfold must
  rw [show i + 1 + t - i - 1 = t by omega]
  simp
  omega
theorem hbF_tb {B : Nat → Nat} {xs : List Nat} {i y : Nat} : ∀ t, (hbF B xs i t).testBit y = true ↔ ((B (xs.getD i 0)).testBit y = true ∨ ∃ m, i < m ∧ m < i + 1 + t ∧ must B xs i m = true ∧ (B (xs.getD m 0)).testBit y = true) := by
  intro t
  induction t with
  | zero =>
    show (B (xs.getD i 0)).testBit y = true ↔ _
    constructor
    · exact Or.inl
    · rintro (h | ⟨m, h1, h2, -⟩)
      · exact h
      · omega
  | succ t ih =>
    have hm := must_s (B := B) (xs := xs) (i := i) (t := t)
    show (if (hbF B xs i t).testBit (xs.getD (i + 1 + t) 0) then hbF B xs i t ||| B (xs.getD (i + 1 + t) 0) else hbF B xs i t).testBit y = true ↔ _
    by_cases e : (hbF B xs i t).testBit (xs.getD (i + 1 + t) 0) = true
    · rw [if_pos e, Nat.testBit_or, Bool.or_eq_true, ih]
      constructor
      · rintro ((h | ⟨m, h1, h2, h3⟩) | h)
        · exact Or.inl h
        · exact Or.inr ⟨m, h1, by omega, h3⟩
        · exact Or.inr ⟨i + 1 + t, by omega, by omega, by rw [hm]; exact e, h⟩
      · rintro (h | ⟨m, h1, h2, h3, h4⟩)
        · exact Or.inl (Or.inl h)
        · by_cases e2 : m = i + 1 + t
          · subst e2; exact Or.inr h4
          · exact Or.inl (Or.inr ⟨m, h1, by omega, h3, h4⟩)
    · rw [if_neg e, ih]
      constructor
      · rintro (h | ⟨m, h1, h2, h3⟩)
        · exact Or.inl h
        · exact Or.inr ⟨m, h1, by omega, h3⟩
      · rintro (h | ⟨m, h1, h2, h3, h4⟩)
        · exact Or.inl h
        · by_cases e2 : m = i + 1 + t
          · subst e2; rw [hm] at h3; exact absurd h3 e
          · exact Or.inr ⟨m, h1, by omega, h3, h4⟩
theorem must_iff {B : Nat → Nat} {xs : List Nat} {i j : Nat} : must B xs i j = true ↔ i < j ∧ ((B (xs.getD i 0)).testBit (xs.getD j 0) = true ∨ ∃ m, i < m ∧ m < j ∧ must B xs i m = true ∧ (B (xs.getD m 0)).testBit (xs.getD j 0) = true) := by
  by_cases h : i < j
  · obtain ⟨t, rfl⟩ : ∃ t, j = i + 1 + t := ⟨j - i - 1, by omega⟩
    rw [must_s, hbF_tb]
    simp only [h, true_and]
  · unfold must
    simp [h]
theorem must_tr {B : Nat → Nat} {xs : List Nat} {i m : Nat} (h1 : must B xs i m = true) : ∀ j, must B xs m j = true → must B xs i j = true := by
  intro j
  induction j using Nat.strongRecOn with
  | _ j ih =>
    intro h2
    obtain ⟨a1, a2⟩ := must_iff.mp h2
    have him := (must_iff.mp h1).1
    refine must_iff.mpr ⟨by omega, ?_⟩
    rcases a2 with a2 | ⟨m', b1, b2, b3, b4⟩
    · exact Or.inr ⟨m, him, a1, h1, a2⟩
    · exact Or.inr ⟨m', by omega, b2, ih m' b2 b3, b4⟩
theorem must_mid {B : Nat → Nat} {xs : List Nat} {i j : Nat} : must B xs i j = true ↔ (i < j ∧ (B (xs.getD i 0)).testBit (xs.getD j 0) = true) ∨ ∃ m, i < m ∧ m < j ∧ must B xs i m = true ∧ must B xs m j = true := by
  constructor
  · intro h
    obtain ⟨h1, h2 | ⟨m, a1, a2, a3, a4⟩⟩ := must_iff.mp h
    · exact Or.inl ⟨h1, h2⟩
    · exact Or.inr ⟨m, a1, a2, a3, must_iff.mpr ⟨a2, Or.inl a4⟩⟩
  · rintro (⟨h1, h2⟩ | ⟨m, a1, a2, a3, a4⟩)
    · exact must_iff.mpr ⟨h1, Or.inl h2⟩
    · exact must_tr a3 j a4
theorem inN_of {n : Nat} {y : Int32} (h : outP n y) (hn : n ≤ 24) : y < nI 0 ∨ nI n - nI 1 < y := by
  rcases h with h | ⟨m, hm, rfl, hle⟩
  · exact Or.inl h
  · refine Or.inr ?_
    rw [Int32.lt_iff_toInt_lt, nI_toInt hm]
    cases n with
    | zero => exact Int.lt_of_lt_of_le (by decide) (Int.natCast_nonneg m)
    | succ n => rw [pk_sub (by omega), nI_toInt (by omega)]; omega
theorem bt0 {b : Bool} (h : b.toNat = 0) : b = false := by cases b; rfl; cases h
theorem bt1 {b : Bool} (h : ¬ b.toNat = 0) : b = true := by cases b; exact absurd rfl h; rfl
section MOD
variable {l : Launch} {W : xW} {dep : Nat} {d : xD} {bs : List Nat} {σ : St} {x y z w : Int32} {n n2 k : Nat} {fb : Nat → Nat}
theorem s_X12_aheadH (hx : hN x = none) : mSpecI l W mX12_ahead (dep + 2) [.ref (xad W 240), .int x, .int y, .int z] d (fun r d' => r = -2 ∧ d' = d) := by
  refine m_spec RX12 [some (.ref (xad W 240)), some (.int x), some (.int y), some (.int z), none, none, none, none, none] rfl (by decide +kernel) rfl rfl (fun K hR => ?_)
  refine m_iload_n dX12_ahead_0 rfl ?_
  refine m_callSIp (s_X12_isHeapO hx) cs_X12_172 dX12_ahead_1 ?_
  refine m_if_ne 10 dX12_ahead_4 (by decide) (fun c4 => by exfalso; exact c4 rfl) (fun c4 => ?_)
  refine m_bipush (v := -2) dX12_ahead_7 (by decide) ?_
  exact m_iret (ty := .int) hR dX12_ahead_9 (⟨rfl, rfl⟩)
theorem s_X12_aheadA (hx : hN x = some n) (ha : outP (σ.2.2 n).length y) (hs : moSt d σ) : mSpecI l W mX12_ahead (dep + 2) [.ref (xad W 240), .int x, .int y, .int z] d (fun r d' => r = -3 ∧ d' = d) := by
  obtain ⟨hn, rfl⟩ := hN_some hx
  have h24 := (hs.2 n hn).2.1
  refine m_spec RX12 [some (.ref (xad W 240)), some (.int (nI n)), some (.int y), some (.int z), none, none, none, none, none] rfl (by decide +kernel) rfl rfl (fun K hR => ?_)
  refine m_iload_n dX12_ahead_0 rfl ?_
  refine m_callSIp (s_X12_isHeap hx) cs_X12_172 dX12_ahead_1 ?_
  refine m_if_ne 10 dX12_ahead_4 (by decide) (fun c4 => ?_) (fun c4 => by exfalso; exact c4 (by decide))
  refine m_aload_n dX12_ahead_10 rfl ?_
  refine m_get fl_X12_17 (by decide) rfl rfl dX12_ahead_11 ?_
  refine m_iload_n dX12_ahead_14 rfl ?_
  refine m_iald (by first | exact ⟨by decide, by decide, fun _ => rfl⟩ | exact isI_arr _ (by omega) | exact isI_mv _ (by omega) | exact isI_ne _ (by omega)) (by omega) dX12_ahead_15 ?_
  refine m_eqi ((hs.2 n hn).1) ?_
  refine m_istore dX12_ahead_16 (Nat.le_of_ble_eq_true rfl) rfl ?_
  refine m_iload_n dX12_ahead_18 rfl ?_
  refine m_iconstN 0 dX12_ahead_19 (by decide) ?_
  refine m_iload dX12_ahead_20 rfl ?_
  refine m_iconstN 1 dX12_ahead_22 (by decide) ?_
  refine m_isub dX12_ahead_23 ?_
  refine m_callSIp (s_X12_inN (inN_of ha h24)) cs_X12_83 dX12_ahead_24 ?_
  refine m_if_eq 42 dX12_ahead_27 (by decide) (fun c27 => ?_) (fun c27 => by exfalso; exact c27 rfl)
  refine m_bipush (v := -3) dX12_ahead_42 (by decide) ?_
  exact m_iret (ty := .int) hR dX12_ahead_44 (⟨rfl, rfl⟩)
theorem s_X12_aheadB {a : Nat} (hx : hN x = some n) (ha : a < (σ.2.2 n).length) (hz : outP (σ.2.2 n).length z) (hs : moSt d σ) : mSpecI l W mX12_ahead (dep + 2) [.ref (xad W 240), .int x, .int (nI a), .int z] d (fun r d' => r = -3 ∧ d' = d) := by
  obtain ⟨hn, rfl⟩ := hN_some hx
  have h24 := (hs.2 n hn).2.1
  refine m_spec RX12 [some (.ref (xad W 240)), some (.int (nI n)), some (.int (nI a)), some (.int z), none, none, none, none, none] rfl (by decide +kernel) rfl rfl (fun K hR => ?_)
  refine m_iload_n dX12_ahead_0 rfl ?_
  refine m_callSIp (s_X12_isHeap hx) cs_X12_172 dX12_ahead_1 ?_
  refine m_if_ne 10 dX12_ahead_4 (by decide) (fun c4 => ?_) (fun c4 => by exfalso; exact c4 (by decide))
  refine m_aload_n dX12_ahead_10 rfl ?_
  refine m_get fl_X12_17 (by decide) rfl rfl dX12_ahead_11 ?_
  refine m_iload_n dX12_ahead_14 rfl ?_
  refine m_iald (by first | exact ⟨by decide, by decide, fun _ => rfl⟩ | exact isI_arr _ (by omega) | exact isI_mv _ (by omega) | exact isI_ne _ (by omega)) (by omega) dX12_ahead_15 ?_
  refine m_eqi ((hs.2 n hn).1) ?_
  refine m_istore dX12_ahead_16 (Nat.le_of_ble_eq_true rfl) rfl ?_
  refine m_iload_n dX12_ahead_18 rfl ?_
  refine m_iconstN 0 dX12_ahead_19 (by decide) ?_
  refine m_iload dX12_ahead_20 rfl ?_
  refine m_iconstN 1 dX12_ahead_22 (by decide) ?_
  first | refine m_isubN dX12_ahead_23 (by omega) ?_ | refine m_isub dX12_ahead_23 ?_
  refine m_callSIp (s_X12_inY (x := nI a) (a := nI 0) (b := nI ((σ.2.2 n).length - 1)) ((nI_leI (by omega) (by omega)).mpr (by omega)) ((nI_leI (by omega) (by omega)).mpr (by omega))) cs_X12_83 dX12_ahead_24 ?_
  refine m_if_eq 42 dX12_ahead_27 (by decide) (fun c27 => by exfalso; exact absurd c27 (by decide)) (fun c27 => ?_)
  refine m_iload_n dX12_ahead_30 rfl ?_
  refine m_iconstN 0 dX12_ahead_31 (by decide) ?_
  refine m_iload dX12_ahead_32 rfl ?_
  refine m_iconstN 1 dX12_ahead_34 (by decide) ?_
  refine m_isub dX12_ahead_35 ?_
  refine m_callSIp (s_X12_inN (inN_of hz h24)) cs_X12_83 dX12_ahead_36 ?_
  refine m_if_ne 45 dX12_ahead_39 (by decide) (fun c39 => by exfalso; exact c39 rfl) (fun c39 => ?_)
  refine m_bipush (v := -3) dX12_ahead_42 (by decide) ?_
  exact m_iret (ty := .int) hR dX12_ahead_44 (⟨rfl, rfl⟩)
theorem s_X12_ahead {a b : Nat} (hx : hN x = some n) (ha : a < (σ.2.2 n).length) (hb : b < (σ.2.2 n).length) (hs : moSt d σ) : mSpecI l W mX12_ahead (dep + 2) [.ref (xad W 240), .int x, .int (nI a), .int (nI b)] d (fun r d' => r = (if must (bw σ.1 σ.2.1) (σ.2.2 n) a b = true then 1 else 0) ∧ chg [250] d d') := by
  obtain ⟨hn, rfl⟩ := hN_some hx
  have hk := hs.1.2.2.2.1
  obtain ⟨hA, h24, hAg, hxk⟩ := hs.2 n hn
  have hl := hs.1
  have hZ : isZ W 250 576 := ⟨by decide, by decide, fun _ => rfl⟩
  generalize σ.2.2 n = xs at *
  generalize hM : must (bw σ.1 σ.2.1) xs = M
  have hM2 : ∀ i j, M i j = true ↔ (i < j ∧ (bw σ.1 σ.2.1 (xs.getD i 0)).testBit (xs.getD j 0) = true) ∨ ∃ m, i < m ∧ m < j ∧ M i m = true ∧ M m j = true := fun i j => by rw [← hM]; exact must_mid
  have hxg : ∀ i, i < xs.length → xs.getD i 0 < σ.1 := fun i hi => by rw [getD_at hi]; exact hxk _ (List.getElem_mem hi)
  refine m_spec RX12 [some (.ref (xad W 240)), some (.int (nI n)), some (.int (nI a)), some (.int (nI b)), none, none, none, none, none] rfl (by decide +kernel) rfl rfl (fun K hR => ?_)
  have fin : ∀ d1 o6 o7 o8, (∀ i j, i < xs.length → j < xs.length → d1.1 250 (24 * i + j) = nI (M i j).toNat) → chg [250] d d1 → mG W K cX12_ahead RX12 (dep + 2) d1 201 [some (.ref (xad W 240)), some (.int (nI n)), some (.int (nI a)), some (.int (nI b)), some (.int (nI xs.length)), some (.int (nI 0 - nI 1)), o6, o7, o8] [] := fun d1 o6 o7 o8 g1 g2 => by
    have hb2 : (M a b).toNat < 2 := Bool.toNat_lt _
    refine m_aload_n dX12_ahead_201 rfl ?_
    refine m_get fl_X12_42 (by decide) rfl rfl dX12_ahead_202 ?_
    refine m_bipushN 24 dX12_ahead_205 (by decide) ?_
    refine m_iload_n dX12_ahead_207 rfl ?_
    first | refine m_imulN dX12_ahead_208 ?_ | refine m_imul dX12_ahead_208 ?_
    refine m_iload_n dX12_ahead_209 rfl ?_
    first | refine m_iaddN dX12_ahead_210 ?_ | refine m_iadd dX12_ahead_210 ?_
    refine m_zald hZ (by omega) dX12_ahead_211 ?_
    refine m_eqi (g1 a b ha hb) ?_
    first | refine m_if_eqN 219 dX12_ahead_212 (by decide) (by omega) (fun c212 => ?_) (fun c212 => ?_) | refine m_if_eq 219 dX12_ahead_212 (by decide) (fun c212 => ?_) (fun c212 => ?_)
    · refine m_iconstN 0 dX12_ahead_219 (by decide) ?_
      exact m_iret (ty := .int) hR dX12_ahead_220 (⟨by rw [bt0 c212]; rfl, g2⟩)
    · refine m_iconstN 1 dX12_ahead_215 (by decide) ?_
      refine m_goto 220 dX12_ahead_216 (by decide) ?_
      exact m_iret (ty := .int) hR dX12_ahead_220 (⟨by rw [bt1 c212]; rfl, g2⟩)
  have outer : ∀ A, A ≤ xs.length → ∀ d1 o6 o7 o8, (∀ i j, A ≤ i → i < xs.length → j < xs.length → d1.1 250 (24 * i + j) = nI (M i j).toNat) → chg [250] d d1 → mG W K cX12_ahead RX12 (dep + 2) d1 51 [some (.ref (xad W 240)), some (.int (nI n)), some (.int (nI a)), some (.int (nI b)), some (.int (nI xs.length)), some (.int (nI A - nI 1)), o6, o7, o8] [] := by
    intro A
    induction A with
    | zero =>
      intro hA0 d1 o6 o7 o8 g1 g2
      refine m_iload dX12_ahead_51 rfl ?_
      refine m_if_lt 201 dX12_ahead_53 (by decide) (fun c53 => ?_) (fun c53 => by exfalso; exact c53 (by decide))
      exact fin d1 _ _ _ (fun i j hi hj => g1 i j (Nat.zero_le _) hi hj) g2
    | succ A ihA =>
      intro hA0 d1 o6 o7 o8 g1 g2
      have mid : ∀ B, B ≤ xs.length → ∀ d2 o7 o8, (∀ i j, A + 1 ≤ i → i < xs.length → j < xs.length → d2.1 250 (24 * i + j) = nI (M i j).toNat) → (∀ j, j < B → d2.1 250 (24 * A + j) = nI (M A j).toNat) → chg [250] d d2 → mG W K cX12_ahead RX12 (dep + 2) d2 59 [some (.ref (xad W 240)), some (.int (nI n)), some (.int (nI a)), some (.int (nI b)), some (.int (nI xs.length)), some (.int (nI A)), some (.int (nI B)), o7, o8] [] := x_up _ (fun B hB ih d2 o7 o8 k1 k2 k3 => by
        by_cases hBn : B < xs.length
        · have hl2 := hl.fr k3 (by simp) (by simp)
          have hH : ∀ i, i < xs.length → d2.1 243 (24 * n + i) = nI (xs.getD i 0) := fun i hi => by rw [(k3 243 (by simp)).1]; exact hAg i hi
          have inner : ∀ v : Bool, ∀ m, A + 1 ≤ m → (m ≤ B ∨ m = A + 1) → (v = true ↔ (A < B ∧ (bw σ.1 σ.2.1 (xs.getD A 0)).testBit (xs.getD B 0) = true) ∨ ∃ m', A < m' ∧ m' < m ∧ m' < B ∧ M A m' = true ∧ M m' B = true) → mG W K cX12_ahead RX12 (dep + 2) d2 117 [some (.ref (xad W 240)), some (.int (nI n)), some (.int (nI a)), some (.int (nI b)), some (.int (nI xs.length)), some (.int (nI A)), some (.int (nI B)), some (.int (nI v.toNat)), some (.int (nI m))] [] := by
            have key : ∀ N, ∀ v : Bool, ∀ m, B - m = N → A + 1 ≤ m → (m ≤ B ∨ m = A + 1) → (v = true ↔ (A < B ∧ (bw σ.1 σ.2.1 (xs.getD A 0)).testBit (xs.getD B 0) = true) ∨ ∃ m', A < m' ∧ m' < m ∧ m' < B ∧ M A m' = true ∧ M m' B = true) → mG W K cX12_ahead RX12 (dep + 2) d2 117 [some (.ref (xad W 240)), some (.int (nI n)), some (.int (nI a)), some (.int (nI b)), some (.int (nI xs.length)), some (.int (nI A)), some (.int (nI B)), some (.int (nI v.toNat)), some (.int (nI m))] [] := by
              intro N
              induction N with
              | zero =>
                intro v m hN hm1 hm2 hv
                have hvM : v = M A B := by
                  have : v = true ↔ M A B = true := by
                    rw [hv, hM2]
                    constructor
                    · rintro (h | ⟨m', q1, q2, q3, q4⟩)
                      · exact Or.inl h
                      · exact Or.inr ⟨m', q1, q3, q4⟩
                    · rintro (h | ⟨m', q1, q3, q4⟩)
                      · exact Or.inl h
                      · exact Or.inr ⟨m', q1, by omega, q3, q4⟩
                  exact Bool.eq_iff_iff.mpr this
                subst hvM
                refine m_iload dX12_ahead_117 rfl ?_
                refine m_iload dX12_ahead_119 rfl ?_
                first | refine m_icmp_geN 174 dX12_ahead_121 (by decide) (by omega) (by omega) (fun c121 => ?_) (fun c121 => by exfalso; omega) | refine m_icmp_ge 174 dX12_ahead_121 (by decide) (fun c121 => ?_) (fun c121 => by exfalso; omega)
                refine m_aload_n dX12_ahead_174 rfl ?_
                refine m_get fl_X12_42 (by decide) rfl rfl dX12_ahead_175 ?_
                refine m_bipushN 24 dX12_ahead_178 (by decide) ?_
                refine m_iload dX12_ahead_180 rfl ?_
                first | refine m_imulN dX12_ahead_182 ?_ | refine m_imul dX12_ahead_182 ?_
                refine m_iload dX12_ahead_183 rfl ?_
                first | refine m_iaddN dX12_ahead_185 ?_ | refine m_iadd dX12_ahead_185 ?_
                refine m_iload dX12_ahead_186 rfl ?_
                refine m_zast hZ (by omega) (by cases M A B <;> decide +kernel) dX12_ahead_188 ?_
                first | refine m_iincN 1 dX12_ahead_189 (by decide) rfl rfl ?_ | refine m_iinc dX12_ahead_189 rfl rfl ?_
                refine m_goto 59 dX12_ahead_192 (by decide) ?_
                refine ih hBn _ _ _ (fun i j q1 q2 q3 => se_e2 (k1 i j q1 q2 q3) (by omega)) (fun j hj => ?_) (k3.se (by simp))
                by_cases e : j = B
                · subst e; exact se_s _ _ _ _
                · exact se_e2 (k2 j (by omega)) (by omega)
              | succ N ihN =>
                intro v m hN hm1 hm2 hv
                have hmB : m < B := by omega
                have nxt : ∀ v' : Bool, (v' = (v || (M A m && M m B))) → (v' = true ↔ (A < B ∧ (bw σ.1 σ.2.1 (xs.getD A 0)).testBit (xs.getD B 0) = true) ∨ ∃ m', A < m' ∧ m' < m + 1 ∧ m' < B ∧ M A m' = true ∧ M m' B = true) := fun v' e => by
                  rw [e, Bool.or_eq_true, hv, Bool.and_eq_true]
                  constructor
                  · rintro ((h | ⟨m', q1, q2, q3⟩) | ⟨q1, q2⟩)
                    · exact Or.inl h
                    · exact Or.inr ⟨m', q1, by omega, q3⟩
                    · exact Or.inr ⟨m, by omega, by omega, hmB, q1, q2⟩
                  · rintro (h | ⟨m', q1, q2, q3, q4⟩)
                    · exact Or.inl (Or.inl h)
                    · by_cases e2 : m' = m
                      · subst e2; exact Or.inr q4
                      · exact Or.inl (Or.inr ⟨m', q1, by omega, q3, q4⟩)
                have hq1 : B - (m + 1) = N := by rw [Nat.sub_add_eq, hN]; rfl
                have hq2 : A + 1 ≤ m + 1 := by omega
                have go1 := fun h => ihN true (m + 1) hq1 hq2 (Or.inl hmB) (nxt true h)
                have go0 := fun h => ihN false (m + 1) hq1 hq2 (Or.inl hmB) (nxt false h)
                have hv2 : v.toNat < 2 := Bool.toNat_lt _
                have hb2 : (M A m).toNat < 2 := Bool.toNat_lt _
                have hb3 : (M m B).toNat < 2 := Bool.toNat_lt _
                refine m_iload dX12_ahead_117 rfl ?_
                refine m_iload dX12_ahead_119 rfl ?_
                first | refine m_icmp_geN 174 dX12_ahead_121 (by decide) (by omega) (by omega) (fun c121 => by exfalso; omega) (fun c121 => ?_) | refine m_icmp_ge 174 dX12_ahead_121 (by decide) (fun c121 => by exfalso; omega) (fun c121 => ?_)
                refine m_iload dX12_ahead_124 rfl ?_
                first | refine m_if_neN 161 dX12_ahead_126 (by decide) (by omega) (fun c126 => ?_) (fun c126 => ?_) | refine m_if_ne 161 dX12_ahead_126 (by decide) (fun c126 => ?_) (fun c126 => ?_)
                · refine m_iconstN 1 dX12_ahead_161 (by decide) ?_
                  refine m_goto 166 dX12_ahead_162 (by decide) ?_
                  refine m_istore dX12_ahead_166 (Nat.le_of_ble_eq_true rfl) rfl ?_
                  first | refine m_iincN 1 dX12_ahead_168 (by decide) rfl rfl ?_ | refine m_iinc dX12_ahead_168 rfl rfl ?_
                  refine m_goto 117 dX12_ahead_171 (by decide) ?_
                  exact go1 (by rw [bt1 c126]; rfl)
                · refine m_aload_n dX12_ahead_129 rfl ?_
                  refine m_get fl_X12_42 (by decide) rfl rfl dX12_ahead_130 ?_
                  refine m_bipushN 24 dX12_ahead_133 (by decide) ?_
                  refine m_iload dX12_ahead_135 rfl ?_
                  first | refine m_imulN dX12_ahead_137 ?_ | refine m_imul dX12_ahead_137 ?_
                  refine m_iload dX12_ahead_138 rfl ?_
                  first | refine m_iaddN dX12_ahead_140 ?_ | refine m_iadd dX12_ahead_140 ?_
                  refine m_zald hZ (by omega) dX12_ahead_141 ?_
                  refine m_eqi (k2 m (by omega)) ?_
                  first | refine m_if_eqN 165 dX12_ahead_142 (by decide) (by omega) (fun c142 => ?_) (fun c142 => ?_) | refine m_if_eq 165 dX12_ahead_142 (by decide) (fun c142 => ?_) (fun c142 => ?_)
                  · refine m_iconstN 0 dX12_ahead_165 (by decide) ?_
                    refine m_istore dX12_ahead_166 (Nat.le_of_ble_eq_true rfl) rfl ?_
                    first | refine m_iincN 1 dX12_ahead_168 (by decide) rfl rfl ?_ | refine m_iinc dX12_ahead_168 rfl rfl ?_
                    refine m_goto 117 dX12_ahead_171 (by decide) ?_
                    exact go0 (by rw [bt0 (Decidable.not_not.mp c126), bt0 c142]; rfl)
                  · refine m_aload_n dX12_ahead_145 rfl ?_
                    refine m_get fl_X12_42 (by decide) rfl rfl dX12_ahead_146 ?_
                    refine m_bipushN 24 dX12_ahead_149 (by decide) ?_
                    refine m_iload dX12_ahead_151 rfl ?_
                    first | refine m_imulN dX12_ahead_153 ?_ | refine m_imul dX12_ahead_153 ?_
                    refine m_iload dX12_ahead_154 rfl ?_
                    first | refine m_iaddN dX12_ahead_156 ?_ | refine m_iadd dX12_ahead_156 ?_
                    refine m_zald hZ (by omega) dX12_ahead_157 ?_
                    refine m_eqi (k1 m B (by omega) (by omega) (by omega)) ?_
                    first | refine m_if_eqN 165 dX12_ahead_158 (by decide) (by omega) (fun c158 => ?_) (fun c158 => ?_) | refine m_if_eq 165 dX12_ahead_158 (by decide) (fun c158 => ?_) (fun c158 => ?_)
                    · refine m_iconstN 0 dX12_ahead_165 (by decide) ?_
                      refine m_istore dX12_ahead_166 (Nat.le_of_ble_eq_true rfl) rfl ?_
                      first | refine m_iincN 1 dX12_ahead_168 (by decide) rfl rfl ?_ | refine m_iinc dX12_ahead_168 rfl rfl ?_
                      refine m_goto 117 dX12_ahead_171 (by decide) ?_
                      exact go0 (by rw [bt0 (Decidable.not_not.mp c126), bt0 c158, Bool.and_false]; rfl)
                    · refine m_iconstN 1 dX12_ahead_161 (by decide) ?_
                      refine m_goto 166 dX12_ahead_162 (by decide) ?_
                      refine m_istore dX12_ahead_166 (Nat.le_of_ble_eq_true rfl) rfl ?_
                      first | refine m_iincN 1 dX12_ahead_168 (by decide) rfl rfl ?_ | refine m_iinc dX12_ahead_168 rfl rfl ?_
                      refine m_goto 117 dX12_ahead_171 (by decide) ?_
                      exact go1 (by rw [bt0 (Decidable.not_not.mp c126), bt1 c142, bt1 c158]; rfl)
            exact fun v m => key _ v m rfl
          have hA6 := hxg A (by omega)
          have hB6 := hxg B hBn
          refine m_iload dX12_ahead_59 rfl ?_
          refine m_iload dX12_ahead_61 rfl ?_
          first | refine m_icmp_geN 195 dX12_ahead_63 (by decide) (by omega) (by omega) (fun c63 => by exfalso; omega) (fun c63 => ?_) | refine m_icmp_ge 195 dX12_ahead_63 (by decide) (fun c63 => by exfalso; omega) (fun c63 => ?_)
          refine m_iload dX12_ahead_66 rfl ?_
          refine m_iload dX12_ahead_68 rfl ?_
          first | refine m_icmp_geN 108 dX12_ahead_70 (by decide) (by omega) (by omega) (fun c70 => ?_) (fun c70 => ?_) | refine m_icmp_ge 108 dX12_ahead_70 (by decide) (fun c70 => ?_) (fun c70 => ?_)
          · refine m_iconstN 0 dX12_ahead_108 (by decide) ?_
            refine m_istore dX12_ahead_109 (Nat.le_of_ble_eq_true rfl) rfl ?_
            refine m_iload dX12_ahead_111 rfl ?_
            refine m_iconstN 1 dX12_ahead_113 (by decide) ?_
            first | refine m_iaddN dX12_ahead_114 ?_ | refine m_iadd dX12_ahead_114 ?_
            refine m_istore dX12_ahead_115 (Nat.le_of_ble_eq_true rfl) rfl ?_
            refine inner false (A + 1) (Nat.le_refl _) (Or.inr rfl) ⟨fun z => absurd z (by decide), ?_⟩
            rintro (⟨h, -⟩ | ⟨m', q1, q2, -⟩)
            · omega
            · omega
          · refine m_aload_n dX12_ahead_73 rfl ?_
            refine m_aload_n dX12_ahead_74 rfl ?_
            refine m_get fl_X12_20 (by decide) rfl rfl dX12_ahead_75 ?_
            refine m_bipushN 24 dX12_ahead_78 (by decide) ?_
            refine m_iload_n dX12_ahead_80 rfl ?_
            first | refine m_imulN dX12_ahead_81 ?_ | refine m_imul dX12_ahead_81 ?_
            refine m_iload dX12_ahead_82 rfl ?_
            first | refine m_iaddN dX12_ahead_84 ?_ | refine m_iadd dX12_ahead_84 ?_
            refine m_iald (by first | exact ⟨by decide, by decide, fun _ => rfl⟩ | exact isI_arr _ (by omega) | exact isI_mv _ (by omega) | exact isI_ne _ (by omega)) (by omega) dX12_ahead_85 ?_
            refine m_eqi (hH A (by omega)) ?_
            refine m_aload_n dX12_ahead_86 rfl ?_
            refine m_get fl_X12_20 (by decide) rfl rfl dX12_ahead_87 ?_
            refine m_bipushN 24 dX12_ahead_90 (by decide) ?_
            refine m_iload_n dX12_ahead_92 rfl ?_
            first | refine m_imulN dX12_ahead_93 ?_ | refine m_imul dX12_ahead_93 ?_
            refine m_iload dX12_ahead_94 rfl ?_
            first | refine m_iaddN dX12_ahead_96 ?_ | refine m_iadd dX12_ahead_96 ?_
            refine m_iald (by first | exact ⟨by decide, by decide, fun _ => rfl⟩ | exact isI_arr _ (by omega) | exact isI_mv _ (by omega) | exact isI_ne _ (by omega)) (by omega) dX12_ahead_97 ?_
            refine m_eqi (hH B hBn) ?_
            refine m_callVIp (s_X12_areFree hl2 (p := xs.getD A 0) (q := xs.getD B 0) (by omega) (by omega)) cv_X12_168 dX12_ahead_98 ?_
            refine m_if_ne 108 dX12_ahead_101 (by decide) (fun c101 => ?_) (fun c101 => ?_)
            · refine m_iconstN 0 dX12_ahead_108 (by decide) ?_
              refine m_istore dX12_ahead_109 (Nat.le_of_ble_eq_true rfl) rfl ?_
              refine m_iload dX12_ahead_111 rfl ?_
              refine m_iconstN 1 dX12_ahead_113 (by decide) ?_
              first | refine m_iaddN dX12_ahead_114 ?_ | refine m_iadd dX12_ahead_114 ?_
              refine m_istore dX12_ahead_115 (Nat.le_of_ble_eq_true rfl) rfl ?_
              refine inner false (A + 1) (Nat.le_refl _) (Or.inr rfl) ⟨fun z => absurd z (by decide), ?_⟩
              rintro (⟨h, h2⟩ | ⟨m', q1, q2, -⟩)
              · rw [bw_tb hl.2.2 (by omega), show (σ.2.1 (xs.getD A 0)).testBit (xs.getD B 0) = true from Decidable.byContradiction (fun z => c101 (by rw [if_neg z])), Bool.not_true, Bool.and_false] at h2
                cases h2
              · omega
            · refine m_iconstN 1 dX12_ahead_104 (by decide) ?_
              refine m_goto 109 dX12_ahead_105 (by decide) ?_
              refine m_istore dX12_ahead_109 (Nat.le_of_ble_eq_true rfl) rfl ?_
              refine m_iload dX12_ahead_111 rfl ?_
              refine m_iconstN 1 dX12_ahead_113 (by decide) ?_
              first | refine m_iaddN dX12_ahead_114 ?_ | refine m_iadd dX12_ahead_114 ?_
              refine m_istore dX12_ahead_115 (Nat.le_of_ble_eq_true rfl) rfl ?_
              refine inner true (A + 1) (Nat.le_refl _) (Or.inr rfl) ⟨fun _ => Or.inl ⟨by omega, ?_⟩, fun _ => rfl⟩
              rw [bw_tb hl.2.2 (by omega), show (σ.2.1 (xs.getD A 0)).testBit (xs.getD B 0) = false from Bool.eq_false_iff.mpr (fun z => c101 (by rw [if_pos z]; decide)), decide_eq_true hB6]; rfl
        · have e6 : B = xs.length := by omega
          subst e6
          refine m_iload dX12_ahead_59 rfl ?_
          refine m_iload dX12_ahead_61 rfl ?_
          first | refine m_icmp_geN 195 dX12_ahead_63 (by decide) (by omega) (by omega) (fun c63 => ?_) (fun c63 => by exfalso; omega) | refine m_icmp_ge 195 dX12_ahead_63 (by decide) (fun c63 => ?_) (fun c63 => by exfalso; omega)
          refine m_iinc dX12_ahead_195 rfl rfl ?_
          refine m_goto 51 dX12_ahead_198 (by decide) ?_
          rw [show nI A + Int32.ofInt (-1) = nI A - nI 1 from by rw [Int32.sub_eq_add_neg]; rfl]
          refine ihA (by omega) d2 _ _ _ (fun i j q1 q2 q3 => ?_) k3
          by_cases e : i = A
          · subst e; exact k2 j q3
          · exact k1 i j (by omega) q2 q3
        )
      have e9 : nI (A + 1) - nI 1 = nI A := by rw [pk_sub (by omega)]; rfl
      rw [e9]
      refine m_iload dX12_ahead_51 rfl ?_
      refine m_if_ltN 201 dX12_ahead_53 (by decide) (by omega) ?_
      refine m_iconstN 0 dX12_ahead_56 (by decide) ?_
      refine m_istore dX12_ahead_57 (Nat.le_of_ble_eq_true rfl) rfl ?_
      exact mid 0 (Nat.zero_le _) d1 _ _ (fun i j q1 q2 q3 => g1 i j q1 q2 q3) (fun j hj => absurd hj (Nat.not_lt_zero j)) g2
  refine m_iload_n dX12_ahead_0 rfl ?_
  refine m_callSIp (s_X12_isHeap hx) cs_X12_172 dX12_ahead_1 ?_
  refine m_if_ne 10 dX12_ahead_4 (by decide) (fun c4 => ?_) (fun c4 => by exfalso; exact c4 (by decide))
  refine m_aload_n dX12_ahead_10 rfl ?_
  refine m_get fl_X12_17 (by decide) rfl rfl dX12_ahead_11 ?_
  refine m_iload_n dX12_ahead_14 rfl ?_
  refine m_iald (by first | exact ⟨by decide, by decide, fun _ => rfl⟩ | exact isI_arr _ (by omega) | exact isI_mv _ (by omega) | exact isI_ne _ (by omega)) (by omega) dX12_ahead_15 ?_
  refine m_eqi (hA) ?_
  refine m_istore dX12_ahead_16 (Nat.le_of_ble_eq_true rfl) rfl ?_
  refine m_iload_n dX12_ahead_18 rfl ?_
  refine m_iconstN 0 dX12_ahead_19 (by decide) ?_
  refine m_iload dX12_ahead_20 rfl ?_
  refine m_iconstN 1 dX12_ahead_22 (by decide) ?_
  first | refine m_isubN dX12_ahead_23 (by omega) ?_ | refine m_isub dX12_ahead_23 ?_
  refine m_callSIp (s_X12_inY (x := nI a) (a := nI 0) (b := nI (xs.length - 1)) ((nI_leI (by omega) (by omega)).mpr (by omega)) ((nI_leI (by omega) (by omega)).mpr (by omega))) cs_X12_83 dX12_ahead_24 ?_
  refine m_if_eq 42 dX12_ahead_27 (by decide) (fun c27 => by exfalso; exact absurd c27 (by decide)) (fun c27 => ?_)
  refine m_iload_n dX12_ahead_30 rfl ?_
  refine m_iconstN 0 dX12_ahead_31 (by decide) ?_
  refine m_iload dX12_ahead_32 rfl ?_
  refine m_iconstN 1 dX12_ahead_34 (by decide) ?_
  first | refine m_isubN dX12_ahead_35 (by omega) ?_ | refine m_isub dX12_ahead_35 ?_
  refine m_callSIp (s_X12_inY (x := nI b) (a := nI 0) (b := nI (xs.length - 1)) ((nI_leI (by omega) (by omega)).mpr (by omega)) ((nI_leI (by omega) (by omega)).mpr (by omega))) cs_X12_83 dX12_ahead_36 ?_
  refine m_if_ne 45 dX12_ahead_39 (by decide) (fun c39 => ?_) (fun c39 => by exfalso; exact c39 (by decide))
  refine m_iload dX12_ahead_45 rfl ?_
  refine m_iconstN 1 dX12_ahead_47 (by decide) ?_
  refine m_isub dX12_ahead_48 ?_
  refine m_istore dX12_ahead_49 (Nat.le_of_ble_eq_true rfl) rfl ?_
  exact outer xs.length (Nat.le_refl _) d _ _ _ (fun i j q1 q2 q3 => by omega) chg.rf
end MOD
