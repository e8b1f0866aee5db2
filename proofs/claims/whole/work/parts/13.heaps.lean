/-! class Heaps: rows of letters under (k, fb) -/
section HEA
variable {l : Launch} {W : xW} {dep : Nat} {d : xD} {k : Nat} {fb : Nat → Nat} {j j2 : Nat} {xs ys : List Nat}
theorem bw_ok (h : fbOk k fb) (hx : ∀ x ∈ xs, x < k) : bOk (bw k fb) xs := by
  have h6 := h.2.1
  refine ⟨fun x hx1 y hy1 => ?_, fun x hx1 => ⟨by have := hx x hx1; omega, ?_⟩⟩
  · have a := hx x hx1
    have b := hx y hy1
    rw [bw_tb h (by omega), bw_tb h (by omega), h.2.2.2.1 x y (by omega) (by omega)]
    simp [a, b]
  · have a := hx x hx1
    rw [bw_tb h (by omega), h.2.2.2.2 x (by omega)]
    simp [a]
theorem s_X2_frontPlace (h : letIs d k fb) (hj : j < 13) (hr : rowIs d j xs) {p : Nat} (hp : p < 6) : mSpecI l W mX2_frontPlace (dep + 1) [.ref (xad W 50), .ref (xad W (j + 4)), .int (nI p)] d (fun r d' => r = optI (front (bw k fb) xs p) ∧ d' = d) := by
  have hk := h.2.2.2.1
  have h24 := hr.1
  have hbl := bw_lt64 h.2.2 hp
  refine m_spec RX2 [some (.ref (xad W 50)), some (.ref (xad W (j + 4))), some (.int (nI p)), none, none] rfl (by decide +kernel) rfl rfl (fun K hR => ?_)
  have loop : ∀ i, i ≤ xs.length → (∀ q (hq : q < xs.length), q < i → (bw k fb p).testBit xs[q] = false) → mG W K cX2_frontPlace RX2 (dep + 1) d 12 [some (.ref (xad W 50)), some (.ref (xad W (j + 4))), some (.int (nI p)), some (.int (nI (bw k fb p))), some (.int (nI i))] [] := x_up _ (fun i hi ih hn => by
    refine m_iload dX2_frontPlace_12 rfl ?_
    refine m_aload_n dX2_frontPlace_14 rfl ?_
    refine m_callVIp (s_X9_length hj hr) cv_X2_34 dX2_frontPlace_15 ?_
    first | refine m_icmp_geN 58 dX2_frontPlace_18 (by decide) (by omega) (by omega) (fun c18 => ?_) (fun c18 => ?_) | refine m_icmp_ge 58 dX2_frontPlace_18 (by decide) (fun c18 => ?_) (fun c18 => ?_)
    · refine m_iconst (v := -1) dX2_frontPlace_58 (by decide) ?_
      exact m_iret (ty := .int) hR dX2_frontPlace_59 (⟨by rw [front_no xs (fun x hx => by obtain ⟨q, hq, rfl⟩ := List.getElem_of_mem hx; exact hn q hq (by omega))]; rfl, rfl⟩)
    · refine m_iload_n dX2_frontPlace_21 rfl ?_
      refine m_aload_n dX2_frontPlace_22 rfl ?_
      refine m_iload dX2_frontPlace_23 rfl ?_
      refine m_callVIp (s_X9_atI hj hr (n := i) (by omega)) cv_X2_38 dX2_frontPlace_25 ?_
      have hb := hr.lt (i := i) (by omega)
      refine m_ishr dX2_frontPlace_28 ?_
      refine m_iconstN 1 dX2_frontPlace_29 (by decide) ?_
      refine m_iand dX2_frontPlace_30 ?_
      refine m_eqi (nI_bit (by omega) (by omega)) ?_
      refine m_iconstN 1 dX2_frontPlace_31 (by decide) ?_
      have hb2 : ((bw k fb p).testBit xs[i]).toNat < 2 := Bool.toNat_lt _
      first | refine m_icmp_neN 52 dX2_frontPlace_32 (by decide) (by omega) (by omega) (fun c32 => ?_) (fun c32 => ?_) | refine m_icmp_ne 52 dX2_frontPlace_32 (by decide) (fun c32 => ?_) (fun c32 => ?_)
      · first | refine m_iincN 1 dX2_frontPlace_52 (by decide) rfl rfl ?_ | refine m_iinc dX2_frontPlace_52 rfl rfl ?_
        refine m_goto 12 dX2_frontPlace_55 (by decide) ?_
        refine ih (by omega) (fun q hq hqi => ?_)
        by_cases e : q = i
        · subst e; cases hc : (bw k fb p).testBit xs[q] <;> simp_all
        · exact hn q hq (by omega)
      · refine m_aload_n dX2_frontPlace_35 rfl ?_
        refine m_iload dX2_frontPlace_36 rfl ?_
        refine m_callVIp (s_X9_atI hj hr (n := i) (by omega)) cv_X2_38 dX2_frontPlace_38 ?_
        refine m_iload_n dX2_frontPlace_41 rfl ?_
        first | refine m_icmp_neN 50 dX2_frontPlace_42 (by decide) (by omega) (by omega) (fun c42 => ?_) (fun c42 => ?_) | refine m_icmp_ne 50 dX2_frontPlace_42 (by decide) (fun c42 => ?_) (fun c42 => ?_)
        · refine m_iconst (v := -1) dX2_frontPlace_50 (by decide) ?_
          exact m_iret (ty := .int) hR dX2_frontPlace_51 (⟨by rw [front_at xs i (by omega) (fun q hq => hn q (by omega) hq) (by cases hc : (bw k fb p).testBit xs[i] <;> simp_all), if_neg c42]; rfl, rfl⟩)
        · refine m_iload dX2_frontPlace_45 rfl ?_
          refine m_goto 51 dX2_frontPlace_47 (by decide) ?_
          exact m_iret (ty := .int) hR dX2_frontPlace_51 (⟨by rw [front_at xs i (by omega) (fun q hq => hn q (by omega) hq) (by cases hc : (bw k fb p).testBit xs[i] <;> simp_all), if_pos (Decidable.not_not.mp c42)]; rfl, rfl⟩)
    )
  refine m_aload_n dX2_frontPlace_0 rfl ?_
  refine m_get fl_X2_24 (by decide) rfl rfl dX2_frontPlace_1 ?_
  refine m_iload_n dX2_frontPlace_4 rfl ?_
  refine m_callVIp (s_X3_boundWith h (p := p) hp) cv_X2_28 dX2_frontPlace_5 ?_
  refine m_istore_n dX2_frontPlace_8 (Nat.le_of_ble_eq_true rfl) rfl ?_
  refine m_iconstN 0 dX2_frontPlace_9 (by decide) ?_
  refine m_istore dX2_frontPlace_10 (Nat.le_of_ble_eq_true rfl) rfl ?_
  exact loop 0 (Nat.zero_le _) (fun q _ hq => absurd hq (Nat.not_lt_zero q))
theorem optI_ne {o : Option Nat} (ho : ∀ i, o = some i → i < 2 ^ 31) : optI o = -1 ↔ o = none := by
  cases o with
  | none => simp [optI]
  | some i =>
    have := ho i rfl
    simp only [optI, reduceCtorEq, iff_false]
    intro z
    have h2 := nI_pos this
    rw [z] at h2
    exact h2 (by decide)
theorem s_X2_canTakeOff (h : letIs d k fb) (hj : j < 13) (hr : rowIs d j xs) {p : Nat} (hp : p < 6) : mSpecI l W mX2_canTakeOff (dep + 2) [.ref (xad W 50), .ref (xad W (j + 4)), .int (nI p)] d (fun r d' => r = (if (front (bw k fb) xs p).isSome then 1 else 0) ∧ d' = d) := by
  have h24 := hr.1
  have ho : ∀ i, front (bw k fb) xs p = some i → i < 2 ^ 31 := fun i hi => by have := front_lt hi; omega
  refine m_spec RX2 [some (.ref (xad W 50)), some (.ref (xad W (j + 4))), some (.int (nI p))] rfl (by decide +kernel) rfl rfl (fun K hR => ?_)
  refine m_aload_n dX2_canTakeOff_0 rfl ?_
  refine m_aload_n dX2_canTakeOff_1 rfl ?_
  refine m_iload_n dX2_canTakeOff_2 rfl ?_
  refine m_callVIp (s_X2_frontPlace h hj hr (p := p) hp) cv_X2_41 dX2_canTakeOff_3 ?_
  refine m_iconst (v := -1) dX2_canTakeOff_6 (by decide) ?_
  refine m_icmp_eq 14 dX2_canTakeOff_7 (by decide) (fun c7 => ?_) (fun c7 => ?_)
  · refine m_iconstN 0 dX2_canTakeOff_14 (by decide) ?_
    exact m_iret (ty := .boolean) hR dX2_canTakeOff_15 (⟨by rw [(optI_ne ho).mp c7]; rfl, rfl⟩)
  · refine m_iconstN 1 dX2_canTakeOff_10 (by decide) ?_
    refine m_goto 15 dX2_canTakeOff_11 (by decide) ?_
    exact m_iret (ty := .boolean) hR dX2_canTakeOff_15 (⟨by cases hc : front (bw k fb) xs p <;> simp_all [optI] <;> rfl, rfl⟩)
theorem s_X2_takeOff (h : letIs d k fb) (hj : j < 13) (hr : rowIs d j xs) {p : Nat} (hp : p < 6) : mSpecI l W mX2_takeOff (dep + 2) [.ref (xad W 50), .ref (xad W (j + 4)), .int (nI p)] d (fun r d' => (front (bw k fb) xs p = none ∧ r = 0 ∧ d' = d) ∨ ∃ i, front (bw k fb) xs p = some i ∧ r = 1 ∧ rowIs d' j (xs.eraseIdx i) ∧ chg [j + 4, j + 17] d d') := by
  have h24 := hr.1
  have ho : ∀ i, front (bw k fb) xs p = some i → i < 2 ^ 31 := fun i hi => by have := front_lt hi; omega
  refine m_spec RX2 [some (.ref (xad W 50)), some (.ref (xad W (j + 4))), some (.int (nI p)), none] rfl (by decide +kernel) rfl rfl (fun K hR => ?_)
  refine m_aload_n dX2_takeOff_0 rfl ?_
  refine m_aload_n dX2_takeOff_1 rfl ?_
  refine m_iload_n dX2_takeOff_2 rfl ?_
  refine m_callVIp (s_X2_frontPlace h hj hr (p := p) hp) cv_X2_41 dX2_takeOff_3 ?_
  refine m_istore_n dX2_takeOff_6 (Nat.le_of_ble_eq_true rfl) rfl ?_
  cases hc : front (bw k fb) xs p with
  | none =>
    simp only [optI]
    refine m_aload_n dX2_takeOff_7 rfl ?_
    refine m_iload_n dX2_takeOff_8 rfl ?_
    refine m_callVVp (s_X9_removeAtM hj) cv_X2_45 dX2_takeOff_9 ?_
    refine m_iload_n dX2_takeOff_12 rfl ?_
    refine m_iconst (v := -1) dX2_takeOff_13 (by decide) ?_
    refine m_icmp_eq 21 dX2_takeOff_14 (by decide) (fun c14 => ?_) (fun c14 => by exfalso; exact c14 rfl)
    refine m_iconstN 0 dX2_takeOff_21 (by decide) ?_
    exact m_iret (ty := .boolean) hR dX2_takeOff_22 (Or.inl ⟨hc, rfl, rfl⟩)
  | some i =>
    have hi := ho i hc
    simp only [optI]
    refine m_aload_n dX2_takeOff_7 rfl ?_
    refine m_iload_n dX2_takeOff_8 rfl ?_
    refine m_callVV (s_X9_removeAt hj hr (n := i) (front_lt hc)) cv_X2_45 dX2_takeOff_9 (fun d2 g2 => ?_)
    refine m_iload_n dX2_takeOff_12 rfl ?_
    refine m_iconst (v := -1) dX2_takeOff_13 (by decide) ?_
    refine m_icmp_eq 21 dX2_takeOff_14 (by decide) (fun c14 => by exfalso; exact absurd ((optI_ne (o := some i) (fun q e => by cases e; exact hi)).mp c14) (by simp)) (fun c14 => ?_)
    refine m_iconstN 1 dX2_takeOff_17 (by decide) ?_
    refine m_goto 22 dX2_takeOff_18 (by decide) ?_
    exact m_iret (ty := .boolean) hR dX2_takeOff_22 (Or.inr ⟨i, hc, rfl, g2.1, g2.2⟩)
theorem s_X2_letters : mSpecR l W mX2_letters dep [.ref (xad W 50)] d (fun r d' => r = .ref (xad W 1) ∧ d' = d) := by
  refine m_spec RX2 [some (.ref (xad W 50))] rfl (by decide +kernel) rfl rfl (fun K hR => ?_)
  refine m_aload_n dX2_letters_0 rfl ?_
  refine m_get fl_X2_24 (by decide) rfl rfl dX2_letters_1 ?_
  exact m_aret hR dX2_letters_4 (by first | exact Or.inl rfl | exact Or.inr ⟨_, rfl⟩) (⟨rfl, rfl⟩)
/-- the letters that those of xs hold back -/
def held (B : Nat → Nat) (xs : List Nat) : Nat := xs.foldl (fun s x => s ||| B x) 0
theorem held_fold (B : Nat → Nat) (xs : List Nat) : ∀ s q, (xs.foldl (fun s x => s ||| B x) s).testBit q = (s.testBit q || xs.any (fun x => (B x).testBit q)) := by
  induction xs with
  | nil => intro s q; simp
  | cons x xs ih => intro s q; rw [List.foldl_cons, ih, Nat.testBit_or, List.any_cons, Bool.or_assoc]
theorem held_tb (B : Nat → Nat) (xs : List Nat) (q : Nat) : (held B xs).testBit q = xs.any (fun x => (B x).testBit q) := by
  unfold held
  rw [held_fold]; simp
theorem held_s (B : Nat → Nat) (xs : List Nat) (x : Nat) : held B (xs ++ [x]) = held B xs ||| B x := by
  unfold held
  rw [List.foldl_append]; rfl
theorem held_lt {B : Nat → Nat} {xs : List Nat} (h : ∀ x ∈ xs, B x < 64) : held B xs < 64 := by
  refine Nat.lt_pow_two_of_testBit (n := 6) _ (fun i hi => ?_)
  rw [held_tb, List.any_eq_false]
  intro x hx
  rw [Nat.testBit_lt_two_pow (Nat.lt_of_lt_of_le (h x hx) (Nat.pow_le_pow_right (n := 2) (by decide) hi))]
  decide
theorem held_front {B : Nat → Nat} {xs : List Nat} (hb : bOk B xs) {i : Nat} (hi : i < xs.length) : (held B (xs.take i)).testBit xs[i] = false ↔ ∀ q (hq : q < i), (B xs[i]).testBit (xs[q]'(by omega)) = false := by
  rw [held_tb, List.any_eq_false]
  constructor
  · intro h q hq
    have := h xs[q] (by rw [List.mem_take_iff_getElem]; exact ⟨q, by omega, rfl⟩)
    rw [hb.1 xs[i] (List.getElem_mem _) xs[q] (List.getElem_mem _)]
    cases hc : (B xs[q]).testBit xs[i] <;> simp_all
  · intro h x hx
    obtain ⟨q, hq, rfl⟩ := List.mem_take_iff_getElem.mp hx
    have := h q (by omega)
    rw [hb.1 xs[i] (List.getElem_mem _) xs[q] (List.getElem_mem _)] at this
    rw [this]; decide
theorem s_X2_leastFrontPlace (h : letIs d k fb) (hj : j < 13) (hr : rowIs d j xs) (hx : ∀ x ∈ xs, x < k) (hne : xs ≠ []) : mSpecI l W mX2_leastFrontPlace (dep + 1) [.ref (xad W 50), .ref (xad W (j + 4))] d (fun r d' => (∃ (n : Nat) (hn : n < xs.length), r = nI n ∧ leastL (bw k fb) xs = some xs[n] ∧ front (bw k fb) xs xs[n] = some n) ∧ d' = d) := by
  have hk := h.2.2.2.1
  have h24 := hr.1
  have hb := bw_ok h.2.2 hx
  have hl0 : 0 < xs.length := List.length_pos_iff.mpr hne
  have h64 : ∀ i, held (bw k fb) (xs.take i) < 64 := fun i => held_lt (fun x hx1 => bw_lt64 h.2.2 (by have := hx x (List.mem_of_mem_take hx1); omega))
  refine m_spec RX2 [some (.ref (xad W 50)), some (.ref (xad W (j + 4))), none, none, none, none] rfl (by decide +kernel) rfl rfl (fun K hR => ?_)
  have loop : ∀ i, i ≤ xs.length → ∀ (m : Nat) (o5 : Option Value) (hm : m < xs.length), (m < i ∨ m = 0) → (∀ q (hq : q < m), (bw k fb xs[m]).testBit (xs[q]'(by omega)) = false) → (∀ s (hs : s < xs.length), s < i → (∀ q (hq : q < s), (bw k fb xs[s]).testBit (xs[q]'(by omega)) = false) → xs[m] ≤ xs[s]) → mG W K cX2_leastFrontPlace RX2 (dep + 1) d 7 [some (.ref (xad W 50)), some (.ref (xad W (j + 4))), some (.int (nI (held (bw k fb) (xs.take i)))), some (.int (nI m)), some (.int (nI i)), o5] [] := x_up _ (fun i hi ih m o5 hm g0 g1 g2 => by
    have h64i := h64 i
    refine m_iload dX2_leastFrontPlace_7 rfl ?_
    refine m_aload_n dX2_leastFrontPlace_9 rfl ?_
    refine m_callVIp (s_X9_length hj hr) cv_X2_34 dX2_leastFrontPlace_10 ?_
    first | refine m_icmp_geN 64 dX2_leastFrontPlace_13 (by decide) (by omega) (by omega) (fun c13 => ?_) (fun c13 => ?_) | refine m_icmp_ge 64 dX2_leastFrontPlace_13 (by decide) (fun c13 => ?_) (fun c13 => ?_)
    · refine m_iload_n dX2_leastFrontPlace_64 rfl ?_
      exact m_iret (ty := .int) hR dX2_leastFrontPlace_65 (⟨⟨m, hm, rfl, leastL_place hb hm g1 (fun s hs => g2 s hs (by omega))⟩, rfl⟩)
    · refine m_aload_n dX2_leastFrontPlace_16 rfl ?_
      refine m_iload dX2_leastFrontPlace_17 rfl ?_
      refine m_callVIp (s_X9_atI hj hr (n := i) (by omega)) cv_X2_38 dX2_leastFrontPlace_19 ?_
      refine m_istore dX2_leastFrontPlace_22 (Nat.le_of_ble_eq_true rfl) rfl ?_
      refine m_iload_n dX2_leastFrontPlace_24 rfl ?_
      refine m_iload dX2_leastFrontPlace_25 rfl ?_
      have hbi := hr.lt (i := i) (by omega)
      have hbm := hr.lt (i := m) (by omega)
      refine m_ishr dX2_leastFrontPlace_27 ?_
      refine m_iconstN 1 dX2_leastFrontPlace_28 (by decide) ?_
      refine m_iand dX2_leastFrontPlace_29 ?_
      refine m_eqi (nI_bit (by omega) (by omega)) ?_
      have hb2 : ((held (bw k fb) (xs.take i)).testBit xs[i]).toNat < 2 := Bool.toNat_lt _
      first | refine m_if_neN 46 dX2_leastFrontPlace_30 (by decide) (by omega) (fun c30 => ?_) (fun c30 => ?_) | refine m_if_ne 46 dX2_leastFrontPlace_30 (by decide) (fun c30 => ?_) (fun c30 => ?_)
      · refine m_iload_n dX2_leastFrontPlace_46 rfl ?_
        refine m_aload_n dX2_leastFrontPlace_47 rfl ?_
        refine m_get fl_X2_24 (by decide) rfl rfl dX2_leastFrontPlace_48 ?_
        refine m_iload dX2_leastFrontPlace_51 rfl ?_
        refine m_callVIp (s_X3_boundWith h (p := xs[i]) (by omega)) cv_X2_28 dX2_leastFrontPlace_53 ?_
        refine m_ior dX2_leastFrontPlace_56 ?_
        refine m_eqi (nI_or _ _) ?_
        refine m_istore_n dX2_leastFrontPlace_57 (Nat.le_of_ble_eq_true rfl) rfl ?_
        first | refine m_iincN 1 dX2_leastFrontPlace_58 (by decide) rfl rfl ?_ | refine m_iinc dX2_leastFrontPlace_58 rfl rfl ?_
        refine m_goto 7 dX2_leastFrontPlace_61 (by decide) ?_
        refine (ih (by omega) m _ hm (by omega) g1 (fun s hs hsi hf => ?_) : mG W K cX2_leastFrontPlace RX2 (dep + 1) d 7 [some (.ref (xad W 50)), some (.ref (xad W (j + 4))), some (.int (nI (held (bw k fb) (xs.take (i + 1))))), some (.int (nI m)), some (.int (nI (i + 1))), some (.int (nI xs[i]))] []) |> (fun e => by rw [take_s (by omega), held_s] at e; exact e)
        by_cases e : s = i
        · subst e
          have := (held_front hb hs).mpr hf
          rw [this] at c30
          exact absurd rfl c30
        · exact g2 s hs (by omega) hf
      · refine m_iload dX2_leastFrontPlace_33 rfl ?_
        refine m_aload_n dX2_leastFrontPlace_35 rfl ?_
        refine m_iload_n dX2_leastFrontPlace_36 rfl ?_
        refine m_callVIp (s_X9_atI hj hr (n := m) (by omega)) cv_X2_38 dX2_leastFrontPlace_37 ?_
        first | refine m_icmp_geN 46 dX2_leastFrontPlace_40 (by decide) (by omega) (by omega) (fun c40 => ?_) (fun c40 => ?_) | refine m_icmp_ge 46 dX2_leastFrontPlace_40 (by decide) (fun c40 => ?_) (fun c40 => ?_)
        · refine m_iload_n dX2_leastFrontPlace_46 rfl ?_
          refine m_aload_n dX2_leastFrontPlace_47 rfl ?_
          refine m_get fl_X2_24 (by decide) rfl rfl dX2_leastFrontPlace_48 ?_
          refine m_iload dX2_leastFrontPlace_51 rfl ?_
          refine m_callVIp (s_X3_boundWith h (p := xs[i]) (by omega)) cv_X2_28 dX2_leastFrontPlace_53 ?_
          refine m_ior dX2_leastFrontPlace_56 ?_
          refine m_eqi (nI_or _ _) ?_
          refine m_istore_n dX2_leastFrontPlace_57 (Nat.le_of_ble_eq_true rfl) rfl ?_
          first | refine m_iincN 1 dX2_leastFrontPlace_58 (by decide) rfl rfl ?_ | refine m_iinc dX2_leastFrontPlace_58 rfl rfl ?_
          refine m_goto 7 dX2_leastFrontPlace_61 (by decide) ?_
          refine (ih (by omega) m _ hm (by omega) g1 (fun s hs hsi hf => ?_) : mG W K cX2_leastFrontPlace RX2 (dep + 1) d 7 [some (.ref (xad W 50)), some (.ref (xad W (j + 4))), some (.int (nI (held (bw k fb) (xs.take (i + 1))))), some (.int (nI m)), some (.int (nI (i + 1))), some (.int (nI xs[i]))] []) |> (fun e => by rw [take_s (by omega), held_s] at e; exact e)
          by_cases e : s = i
          · subst e; exact c40
          · exact g2 s hs (by omega) hf
        · refine m_iload dX2_leastFrontPlace_43 rfl ?_
          refine m_istore_n dX2_leastFrontPlace_45 (Nat.le_of_ble_eq_true rfl) rfl ?_
          refine m_iload_n dX2_leastFrontPlace_46 rfl ?_
          refine m_aload_n dX2_leastFrontPlace_47 rfl ?_
          refine m_get fl_X2_24 (by decide) rfl rfl dX2_leastFrontPlace_48 ?_
          refine m_iload dX2_leastFrontPlace_51 rfl ?_
          refine m_callVIp (s_X3_boundWith h (p := xs[i]) (by omega)) cv_X2_28 dX2_leastFrontPlace_53 ?_
          refine m_ior dX2_leastFrontPlace_56 ?_
          refine m_eqi (nI_or _ _) ?_
          refine m_istore_n dX2_leastFrontPlace_57 (Nat.le_of_ble_eq_true rfl) rfl ?_
          first | refine m_iincN 1 dX2_leastFrontPlace_58 (by decide) rfl rfl ?_ | refine m_iinc dX2_leastFrontPlace_58 rfl rfl ?_
          refine m_goto 7 dX2_leastFrontPlace_61 (by decide) ?_
          refine (ih (by omega) i _ (by omega) (by omega) ?_ (fun s hs hsi hf => ?_) : mG W K cX2_leastFrontPlace RX2 (dep + 1) d 7 [some (.ref (xad W 50)), some (.ref (xad W (j + 4))), some (.int (nI (held (bw k fb) (xs.take (i + 1))))), some (.int (nI i)), some (.int (nI (i + 1))), some (.int (nI xs[i]))] []) |> (fun e => by rw [take_s (by omega), held_s] at e; exact e)
          · refine (held_front hb (by omega)).mp ?_
            cases hc : (held (bw k fb) (xs.take i)).testBit xs[i]
            · rfl
            · rw [hc] at c30; exact absurd (Decidable.not_not.mp c30) (by decide)
          · by_cases e : s = i
            · subst e; exact Nat.le_refl _
            · have := g2 s hs (by omega) hf; omega
    )
  refine m_iconstN 0 dX2_leastFrontPlace_0 (by decide) ?_
  refine m_istore_n dX2_leastFrontPlace_1 (Nat.le_of_ble_eq_true rfl) rfl ?_
  refine m_iconstN 0 dX2_leastFrontPlace_2 (by decide) ?_
  refine m_istore_n dX2_leastFrontPlace_3 (Nat.le_of_ble_eq_true rfl) rfl ?_
  refine m_iconstN 0 dX2_leastFrontPlace_4 (by decide) ?_
  refine m_istore dX2_leastFrontPlace_5 (Nat.le_of_ble_eq_true rfl) rfl ?_
  exact loop 0 (Nat.zero_le _) 0 none hl0 (Or.inr rfl) (fun q hq => absurd hq (Nat.not_lt_zero q)) (fun s _ hs => absurd hs (Nat.not_lt_zero s))
theorem s_X2_makeLeast {jm : Nat} (h : letIs d k fb) (hj : j < 13) (hjm : jm < 13) (hj5 : j ≠ 5) (hjm5 : jm ≠ 5) (hr : rowIs d j xs) (hx : ∀ x ∈ xs, x < k) : mSpecV l W mX2_makeLeast (dep + 2) [.ref (xad W 50), .ref (xad W (j + 4)), .ref (xad W (jm + 4))] d (fun d' => rowIs d' jm (leastR (bw k fb) xs) ∧ chg [9, 22, jm + 4, jm + 17] d d') := by
  have hk := h.2.2.2.1
  have h24 := hr.1
  have hb := bw_ok h.2.2 hx
  refine m_spec RX2 [some (.ref (xad W 50)), some (.ref (xad W (j + 4))), some (.ref (xad W (jm + 4))), none, none] rfl (by decide +kernel) rfl rfl (fun K hR => ?_)
  have loop : ∀ (i : Nat) (ys zs : List Nat) (d1 : xD) (o4 : Option Value), rowIs d1 5 ys → ys.length = i → rowIs d1 jm zs → zs.length + i ≤ 24 → (∀ y ∈ ys, y < k) → zs ++ least (bw k fb) i ys = leastR (bw k fb) xs → chg [9, 22, jm + 4, jm + 17] d d1 → mG W K cX2_makeLeast RX2 (dep + 2) d1 20 [some (.ref (xad W 50)), some (.ref (xad W (j + 4))), some (.ref (xad W (jm + 4))), some (.int (nI i)), o4] [] := by
    intro i
    induction i with
    | zero =>
      intro ys zs d1 o4 g1 g2 g3 g4 g5 g6 g7
      refine m_iload_n dX2_makeLeast_20 rfl ?_
      first | refine m_if_leN 63 dX2_makeLeast_21 (by decide) (by omega) (fun c21 => ?_) (fun c21 => by exfalso; exact c21 rfl) | refine m_if_le 63 dX2_makeLeast_21 (by decide) (fun c21 => ?_) (fun c21 => by exfalso; exact c21 rfl)
      have e : zs = leastR (bw k fb) xs := by simpa [least] using g6
      exact m_vret hR dX2_makeLeast_63 (⟨e ▸ g3, g7⟩)
    | succ i ih =>
      intro ys zs d1 o4 g1 g2 g3 g4 g5 g6 g7
      have hl1 : letIs d1 k fb := h.fr g7 (by simp <;> omega) (by simp <;> omega)
      refine m_iload_n dX2_makeLeast_20 rfl ?_
      first | refine m_if_leN 63 dX2_makeLeast_21 (by decide) (by omega) (fun c21 => by exfalso; omega) (fun c21 => ?_) | refine m_if_le 63 dX2_makeLeast_21 (by decide) (fun c21 => by exfalso; omega) (fun c21 => ?_)
      refine m_aload_n dX2_makeLeast_24 rfl ?_
      refine m_aload_n dX2_makeLeast_25 rfl ?_
      refine m_get fl_X2_12 (by decide) rfl rfl dX2_makeLeast_26 ?_
      refine m_callVI (s_X2_leastFrontPlace hl1 (by decide) (j := 5) g1 g5 (fun e => by subst e; simp at g2)) cv_X2_56 dX2_makeLeast_29 (fun r29 d29 h29 => ?_)
      obtain ⟨⟨n, hn, rfl, hll, hf⟩, rfl⟩ := h29
      refine m_istore dX2_makeLeast_32 (Nat.le_of_ble_eq_true rfl) rfl ?_
      refine m_aload_n dX2_makeLeast_34 rfl ?_
      refine m_aload_n dX2_makeLeast_35 rfl ?_
      refine m_get fl_X2_12 (by decide) rfl rfl dX2_makeLeast_36 ?_
      refine m_iload dX2_makeLeast_39 rfl ?_
      refine m_callVIp (s_X9_atI (j := 5) (by decide) g1 (n := n) hn) cv_X2_38 dX2_makeLeast_41 ?_
      refine m_callVI (s_X9_push hjm g3 (x := ys[n]) (g1.lt hn) (by omega)) cv_X2_60 dX2_makeLeast_44 (fun r44 d44 h44 => ?_)
      refine m_pop dX2_makeLeast_47 rfl ?_
      refine m_aload_n dX2_makeLeast_48 rfl ?_
      refine m_get fl_X2_12 (by decide) rfl rfl dX2_makeLeast_49 ?_
      refine m_iload dX2_makeLeast_52 rfl ?_
      refine m_callVV (s_X9_removeAt (j := 5) (by decide) (g1.fr h44.2.2 (by simp; omega) (by simp; omega)) (n := n) hn) cv_X2_45 dX2_makeLeast_54 (fun d54 h54 => ?_)
      first | refine m_iincM dX2_makeLeast_57 (by decide) rfl rfl ?_ | refine m_iinc dX2_makeLeast_57 rfl rfl ?_
      refine m_goto 20 dX2_makeLeast_60 (by decide) ?_
      refine ih (ys.eraseIdx n) (zs ++ [ys[n]]) _ _ h54.1 (by rw [List.length_eraseIdx_of_lt hn]; omega) (h44.2.1.fr h54.2 (by simp; omega) (by simp; omega)) (by simp; omega) (fun y hy => g5 y (List.mem_of_mem_eraseIdx hy)) ?_ ((g7.tr (h44.2.2.mono (by simp))).tr (h54.2.mono (by simp)))
      rw [← g6]
      rw [show least (bw k fb) (i + 1) ys = (match leastL (bw k fb) ys with | none => [] | some l => l :: least (bw k fb) i (ys.eraseIdx ((front (bw k fb) ys l).getD 0))) from rfl, hll]
      simp [hf]
  refine m_aload_n dX2_makeLeast_0 rfl ?_
  refine m_get fl_X2_12 (by decide) rfl rfl dX2_makeLeast_1 ?_
  refine m_aload_n dX2_makeLeast_4 rfl ?_
  refine m_callVV (s_X9_become (k := 5) (j := j) hj (by decide) (Ne.symm hj5) hr) cv_X2_49 dX2_makeLeast_5 (fun d5 h5 => ?_)
  refine m_aload_n dX2_makeLeast_8 rfl ?_
  refine m_callVVp (s_X9_wipe (j := jm) hjm) cv_X2_53 dX2_makeLeast_9 ?_
  refine m_aload_n dX2_makeLeast_12 rfl ?_
  refine m_get fl_X2_12 (by decide) rfl rfl dX2_makeLeast_13 ?_
  refine m_callVIp (s_X9_length (j := 5) (by decide) (xs := xs) (h5.1.of (by rw [seI_o _ _ _ _ _ (by omega)]) (fun i _ => by rw [seI_o _ _ _ _ _ (by omega)]))) cv_X2_34 dX2_makeLeast_16 ?_
  refine m_istore_n dX2_makeLeast_19 (Nat.le_of_ble_eq_true rfl) rfl ?_
  exact loop xs.length xs [] _ none (h5.1.of (by rw [seI_o _ _ _ _ _ (by omega)]) (fun i _ => by rw [seI_o _ _ _ _ _ (by omega)])) rfl (rowIs.nil (se_s _ _ _ _)) (by simpa using h24) hx rfl ((h5.2.mono (by simp)).se (by simp))
theorem s_X2_nextSeen (hj : j < 13) (hr : rowIs d j xs) {n s : Nat} (hn : n ≤ xs.length) (hs : s < 64) : mSpecI l W mX2_nextSeen (dep + 1) [.ref (xad W (j + 4)), .int (nI n), .int (nI s)] d (fun r d' => r = nI (nxt s xs n) ∧ d' = d) := by
  have h24 := hr.1
  refine m_spec RX2 [some (.ref (xad W (j + 4))), some (.int (nI n)), some (.int (nI s)), none] rfl (by decide +kernel) rfl rfl (fun K hR => ?_)
  have loop : ∀ i, i ≤ xs.length → n ≤ i → (∀ q (hq : q < xs.length), n ≤ q → q < i → s.testBit xs[q] = false) → mG W K cX2_nextSeen RX2 (dep + 1) d 2 [some (.ref (xad W (j + 4))), some (.int (nI n)), some (.int (nI s)), some (.int (nI i))] [] := x_up _ (fun i hi ih hni g => by
    refine m_iload_n dX2_nextSeen_2 rfl ?_
    refine m_aload_n dX2_nextSeen_3 rfl ?_
    refine m_callVIp (s_X9_length hj hr) cv_X2_34 dX2_nextSeen_4 ?_
    first | refine m_icmp_geN 31 dX2_nextSeen_7 (by decide) (by omega) (by omega) (fun c7 => ?_) (fun c7 => ?_) | refine m_icmp_ge 31 dX2_nextSeen_7 (by decide) (fun c7 => ?_) (fun c7 => ?_)
    · refine m_aload_n dX2_nextSeen_31 rfl ?_
      refine m_callVIp (s_X9_length hj hr) cv_X2_34 dX2_nextSeen_32 ?_
      exact m_iret (ty := .int) hR dX2_nextSeen_35 (⟨by rw [nxt_eq (Nat.le_refl _) hn (fun q hq hnq => g q hq hnq (by omega)) (fun z => absurd z (by omega))], rfl⟩)
    · refine m_iload_n dX2_nextSeen_10 rfl ?_
      refine m_aload_n dX2_nextSeen_11 rfl ?_
      refine m_iload_n dX2_nextSeen_12 rfl ?_
      refine m_callVIp (s_X9_atI hj hr (n := i) (by omega)) cv_X2_38 dX2_nextSeen_13 ?_
      have hb := hr.lt (i := i) (by omega)
      refine m_ishr dX2_nextSeen_16 ?_
      refine m_iconstN 1 dX2_nextSeen_17 (by decide) ?_
      refine m_iand dX2_nextSeen_18 ?_
      refine m_eqi (nI_bit (by omega) (by omega)) ?_
      refine m_iconstN 1 dX2_nextSeen_19 (by decide) ?_
      have hb2 : (s.testBit xs[i]).toNat < 2 := Bool.toNat_lt _
      first | refine m_icmp_neN 25 dX2_nextSeen_20 (by decide) (by omega) (by omega) (fun c20 => ?_) (fun c20 => ?_) | refine m_icmp_ne 25 dX2_nextSeen_20 (by decide) (fun c20 => ?_) (fun c20 => ?_)
      · first | refine m_iincN 1 dX2_nextSeen_25 (by decide) rfl rfl ?_ | refine m_iinc dX2_nextSeen_25 rfl rfl ?_
        refine m_goto 2 dX2_nextSeen_28 (by decide) ?_
        refine ih (by omega) (by omega) (fun q hq hnq hqi => ?_)
        by_cases e : q = i
        · subst e; cases hc : s.testBit xs[q] <;> simp_all
        · exact g q hq hnq (by omega)
      · refine m_iload_n dX2_nextSeen_23 rfl ?_
        exact m_iret (ty := .int) hR dX2_nextSeen_24 (⟨by rw [nxt_eq hi hni (fun q hq hnq => g q (by omega) hnq hq) (fun z => by cases hc : s.testBit xs[i] <;> simp_all)], rfl⟩)
    )
  refine m_iload_n dX2_nextSeen_0 rfl ?_
  refine m_istore_n dX2_nextSeen_1 (Nat.le_of_ble_eq_true rfl) rfl ?_
  exact loop n hn (Nat.le_refl _) (fun q _ h1 h2 => by omega)
theorem nxt_le {s n : Nat} {ys : List Nat} (hn : n ≤ ys.length) : nxt s ys n ≤ ys.length := by
  unfold nxt
  have := List.findIdx_le_length (p := fun x => s.testBit x) (xs := ys.drop n)
  rw [List.length_drop] at this
  omega
theorem nxt_ge {s n : Nat} {ys : List Nat} : n ≤ nxt s ys n := Nat.le_add_right _ _
theorem nxt_seen {s n : Nat} {ys : List Nat} (h : nxt s ys n < ys.length) : s.testBit (ys[nxt s ys n]) = true := by
  have h2 : (ys.drop n).findIdx (fun x => s.testBit x) < (ys.drop n).length := by
    rw [List.length_drop]; unfold nxt at h; omega
  have := List.findIdx_getElem (w := h2)
  rw [List.getElem_drop] at this
  exact this
theorem nxt_none {s n q : Nat} {ys : List Nat} (h1 : n ≤ q) (h2 : q < nxt s ys n) (h3 : q < ys.length) : s.testBit ys[q] = false := by
  have h4 : q - n < (ys.drop n).findIdx (fun x => s.testBit x) := by unfold nxt at h2; omega
  have := List.not_of_lt_findIdx h4
  rw [List.getElem_drop] at this
  have e : n + (q - n) = q := by omega
  simp only [e] at this
  simpa using this
theorem look_take_nxt {s n : Nat} {ys : List Nat} (hn : n ≤ ys.length) : look (ys.take (nxt s ys n)) s = look (ys.take n) s := by
  have h := nxt_le (s := s) hn
  have h0 := nxt_ge (s := s) (ys := ys) (n := n)
  have e : ys.take (nxt s ys n) = ys.take n ++ (ys.drop n).take (nxt s ys n - n) := by
    rw [← List.take_add, show n + (nxt s ys n - n) = nxt s ys n by omega]
  rw [e, look_app, look_no (ys := (ys.drop n).take _), List.append_nil]
  intro y hy
  obtain ⟨q, hq, rfl⟩ := List.mem_take_iff_getElem.mp hy
  rw [List.getElem_drop]
  rw [List.length_drop] at hq
  exact nxt_none (n := n) (by omega) (by omega) (by omega)
theorem look_s {xs : List Nat} {s i : Nat} (h : i < xs.length) : look (xs.take (i + 1)) s = look (xs.take i) s ++ (if s.testBit xs[i] then [xs[i]] else []) := by
  rw [take_s h, look_app]
  congr 1
  unfold look
  cases hc : s.testBit xs[i] <;> simp [hc]
theorem look_d {xs : List Nat} {s : Nat} (i : Nat) : look xs s = look (xs.take i) s ++ look (xs.drop i) s := by
  rw [← look_app, List.take_append_drop]
theorem s_X2_lookAlike (hj : j < 13) (hr : rowIs d j xs) (hj2 : j2 < 13) (hr2 : rowIs d j2 ys) {s : Nat} (hs : s < 64) : mSpecI l W mX2_lookAlike (dep + 2) [.ref (xad W (j + 4)), .ref (xad W (j2 + 4)), .int (nI s)] d (fun r d' => r = (if look xs s = look ys s then 1 else 0) ∧ d' = d) := by
  have h24 := hr.1
  have h242 := hr2.1
  refine m_spec RX2 [some (.ref (xad W (j + 4))), some (.ref (xad W (j2 + 4))), some (.int (nI s)), none, none] rfl (by decide +kernel) rfl rfl (fun K hR => ?_)
  have loop : ∀ i, i ≤ xs.length → ∀ m, m ≤ ys.length → (∀ h : m < ys.length, s.testBit ys[m] = true) → look (xs.take i) s = look (ys.take m) s → mG W K cX2_lookAlike RX2 (dep + 2) d 10 [some (.ref (xad W (j + 4))), some (.ref (xad W (j2 + 4))), some (.int (nI s)), some (.int (nI m)), some (.int (nI i))] [] := x_up _ (fun i hi ih m hm g1 g2 => by
    refine m_iload dX2_lookAlike_10 rfl ?_
    refine m_aload_n dX2_lookAlike_12 rfl ?_
    refine m_callVIp (s_X9_length hj hr) cv_X2_34 dX2_lookAlike_13 ?_
    first | refine m_icmp_geN 64 dX2_lookAlike_16 (by decide) (by omega) (by omega) (fun c16 => ?_) (fun c16 => ?_) | refine m_icmp_ge 64 dX2_lookAlike_16 (by decide) (fun c16 => ?_) (fun c16 => ?_)
    · have hdx : look xs s = look (ys.take m) s := by rw [← g2, List.take_of_length_le (by omega)]
      refine m_iload_n dX2_lookAlike_64 rfl ?_
      refine m_aload_n dX2_lookAlike_65 rfl ?_
      refine m_callVIp (s_X9_length hj2 hr2) cv_X2_34 dX2_lookAlike_66 ?_
      first | refine m_icmp_ltN 76 dX2_lookAlike_69 (by decide) (by omega) (by omega) (fun c69 => ?_) (fun c69 => ?_) | refine m_icmp_lt 76 dX2_lookAlike_69 (by decide) (fun c69 => ?_) (fun c69 => ?_)
      · refine m_iconstN 0 dX2_lookAlike_76 (by decide) ?_
        exact m_iret (ty := .boolean) hR dX2_lookAlike_77 (⟨by rw [if_neg (fun z => by rw [hdx, look_d (xs := ys) m, drop_c c69] at z; unfold look at z; rw [List.filter_cons_of_pos (g1 c69)] at z; simp at z)]; rfl, rfl⟩)
      · refine m_iconstN 1 dX2_lookAlike_72 (by decide) ?_
        refine m_goto 77 dX2_lookAlike_73 (by decide) ?_
        exact m_iret (ty := .boolean) hR dX2_lookAlike_77 (⟨by rw [if_pos (by rw [hdx, List.take_of_length_le (by omega)])]; rfl, rfl⟩)
    · refine m_iload_n dX2_lookAlike_19 rfl ?_
      refine m_aload_n dX2_lookAlike_20 rfl ?_
      refine m_iload dX2_lookAlike_21 rfl ?_
      refine m_callVIp (s_X9_atI hj hr (n := i) (by omega)) cv_X2_38 dX2_lookAlike_23 ?_
      have hb := hr.lt (i := i) (by omega)
      refine m_ishr dX2_lookAlike_26 ?_
      refine m_iconstN 1 dX2_lookAlike_27 (by decide) ?_
      refine m_iand dX2_lookAlike_28 ?_
      refine m_eqi (nI_bit (by omega) (by omega)) ?_
      refine m_iconstN 1 dX2_lookAlike_29 (by decide) ?_
      have hb2 : (s.testBit xs[i]).toNat < 2 := Bool.toNat_lt _
      first | refine m_icmp_neN 58 dX2_lookAlike_30 (by decide) (by omega) (by omega) (fun c30 => ?_) (fun c30 => ?_) | refine m_icmp_ne 58 dX2_lookAlike_30 (by decide) (fun c30 => ?_) (fun c30 => ?_)
      · first | refine m_iincN 1 dX2_lookAlike_58 (by decide) rfl rfl ?_ | refine m_iinc dX2_lookAlike_58 rfl rfl ?_
        refine m_goto 10 dX2_lookAlike_61 (by decide) ?_
        refine ih (by omega) m hm g1 ?_
        rw [look_s (by omega), if_neg (by cases hc : s.testBit xs[i] <;> simp_all), List.append_nil]
        exact g2
      · refine m_aload_n dX2_lookAlike_33 rfl ?_
        refine m_iload dX2_lookAlike_34 rfl ?_
        refine m_callVIp (s_X9_atI hj hr (n := i) (by omega)) cv_X2_38 dX2_lookAlike_36 ?_
        refine m_aload_n dX2_lookAlike_39 rfl ?_
        refine m_iload_n dX2_lookAlike_40 rfl ?_
        refine m_callVIp (s_X9_at hj2 hr2 (n := m) (by omega)) cv_X2_38 dX2_lookAlike_41 ?_
        refine m_icmp_eq 49 dX2_lookAlike_44 (by decide) (fun c44 => ?_) (fun c44 => ?_)
        · refine m_aload_n dX2_lookAlike_49 rfl ?_
          refine m_iload_n dX2_lookAlike_50 rfl ?_
          refine m_iconstN 1 dX2_lookAlike_51 (by decide) ?_
          first | refine m_iaddN dX2_lookAlike_52 ?_ | refine m_iadd dX2_lookAlike_52 ?_
          refine m_iload_n dX2_lookAlike_53 rfl ?_
          have hml : m < ys.length := by
            refine Decidable.byContradiction (fun z => ?_)
            unfold rowAt at c44
            rw [dif_neg z] at c44
            have := nI_pos (n := xs[i]) (by omega)
            rw [c44] at this
            exact this (by decide)
          refine m_callSIp (s_X2_nextSeen hj2 hr2 (n := m + 1) (s := s) (by omega) hs) cs_X2_79 dX2_lookAlike_54 ?_
          refine m_istore_n dX2_lookAlike_57 (Nat.le_of_ble_eq_true rfl) rfl ?_
          first | refine m_iincN 1 dX2_lookAlike_58 (by decide) rfl rfl ?_ | refine m_iinc dX2_lookAlike_58 rfl rfl ?_
          refine m_goto 10 dX2_lookAlike_61 (by decide) ?_
          refine ih (by omega) _ (nxt_le (by omega)) (fun z => nxt_seen z) ?_
          have e : xs[i] = ys[m] := by
            unfold rowAt at c44
            rw [dif_pos hml] at c44
            exact (nI_eq (by omega) (by have := hr2.lt hml; omega)).mp c44
          rw [look_take_nxt (by omega), look_s (by omega), look_s hml, g2, if_pos (g1 hml), if_pos (by cases hc : s.testBit xs[i] <;> simp_all), e]
        · refine m_iconstN 0 dX2_lookAlike_47 (by decide) ?_
          have hsx : s.testBit xs[i] = true := by cases hc : s.testBit xs[i] <;> simp_all
          have hne : look xs s ≠ look ys s := by
            intro z
            rw [look_d (xs := xs) i, look_d (xs := ys) m, g2, drop_c (by omega : i < xs.length)] at z
            have z2 := List.append_cancel_left z
            unfold look at z2
            rw [List.filter_cons_of_pos hsx] at z2
            by_cases hml : m < ys.length
            · rw [drop_c hml, List.filter_cons_of_pos (g1 hml)] at z2
              have e := (List.cons.inj z2).1
              unfold rowAt at c44
              rw [dif_pos hml] at c44
              exact c44 (congrArg nI e)
            · rw [show ys.drop m = [] from List.drop_eq_nil_of_le (by omega)] at z2
              cases z2
          exact m_iret (ty := .boolean) hR dX2_lookAlike_48 (⟨by rw [if_neg hne]; rfl, rfl⟩)
    )
  refine m_aload_n dX2_lookAlike_0 rfl ?_
  refine m_iconstN 0 dX2_lookAlike_1 (by decide) ?_
  refine m_iload_n dX2_lookAlike_2 rfl ?_
  refine m_callSIp (s_X2_nextSeen hj2 hr2 (n := 0) (s := s) (Nat.zero_le _) hs) cs_X2_79 dX2_lookAlike_3 ?_
  refine m_istore_n dX2_lookAlike_6 (Nat.le_of_ble_eq_true rfl) rfl ?_
  refine m_iconstN 0 dX2_lookAlike_7 (by decide) ?_
  refine m_istore dX2_lookAlike_8 (Nat.le_of_ble_eq_true rfl) rfl ?_
  refine loop 0 (Nat.zero_le _) _ (nxt_le (Nat.zero_le _)) (fun z => nxt_seen z) ?_
  rw [look_take_nxt (Nat.zero_le _)]
  rfl
end HEA
