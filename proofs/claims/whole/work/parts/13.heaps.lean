/-! class Heaps: rows of letters under (k, fb) -/
section HEA
variable {l : Launch} {W : xW} {dep : Nat} {d : xD} {k : Nat} {fb : Nat → Nat} {j j2 : Nat} {xs ys : List Nat}
theorem bw_ok (h : fbOk k fb) (hx : ∀ x ∈ xs, x < k) : bOk (bw k fb) xs := by
  have h6 := h.2.1
  refine ⟨fun x hx1 y hy1 => ?_, fun x hx1 => ⟨by have := hx x hx1; omega, ?_⟩⟩
  · have a := hx x hx1
    have b := hx y hy1
    rw [bw_tb h (by omega), bw_tb h (by omega), h.2.2.2.1 x y (by omega) (by omega)]
    simp [a, b]
  · have a := hx x hx1
    rw [bw_tb h (by omega), h.2.2.2.2 x (by omega)]
    simp [a]
theorem s_X2_frontPlace (h : letIs d k fb) (hj : j < 13) (hr : rowIs d j xs) {p : Nat} (hp : p < 6) : mSpecI l W mX2_frontPlace (dep + 1) [.ref (xad W 50), .ref (xad W (j + 4)), .int (nI p)] d (fun r d' => r = optI (front (bw k fb) xs p) ∧ d' = d) := by
  have hk := h.2.2.2.1
  have h24 := hr.1
  have hbl := bw_lt64 h.2.2 hp
  refine m_spec RX2 [some (.ref (xad W 50)), some (.ref (xad W (j + 4))), some (.int (nI p)), none, none] rfl (by decide +kernel) rfl rfl (fun K hR => ?_)
  have loop : ∀ i, i ≤ xs.length → (∀ q (hq : q < xs.length), q < i → (bw k fb p).testBit xs[q] = false) → mG W K cX2_frontPlace RX2 (dep + 1) d 12 [some (.ref (xad W 50)), some (.ref (xad W (j + 4))), some (.int (nI p)), some (.int (nI (bw k fb p))), some (.int (nI i))] [] := x_up _ (fun i hi ih hn => by
    refine m_iload dX2_frontPlace_12 rfl ?_
    refine m_aload_n dX2_frontPlace_14 rfl ?_
    refine m_callVIp (s_X9_length hj hr) cv_X2_34 dX2_frontPlace_15 ?_
    first | refine m_icmp_geN 58 dX2_frontPlace_18 (by decide) (by omega) (by omega) (fun c18 => ?_) (fun c18 => ?_) | refine m_icmp_ge 58 dX2_frontPlace_18 (by decide) (fun c18 => ?_) (fun c18 => ?_)
    · refine m_iconst (v := -1) dX2_frontPlace_58 (by decide) ?_
      exact m_iret (ty := .int) hR dX2_frontPlace_59 (⟨by rw [front_no xs (fun x hx => by obtain ⟨q, hq, rfl⟩ := List.getElem_of_mem hx; exact hn q hq (by omega))]; rfl, rfl⟩)
    · refine m_iload_n dX2_frontPlace_21 rfl ?_
      refine m_aload_n dX2_frontPlace_22 rfl ?_
      refine m_iload dX2_frontPlace_23 rfl ?_
      refine m_callVIp (s_X9_atI hj hr (n := i) (by omega)) cv_X2_38 dX2_frontPlace_25 ?_
      have hb := hr.lt (i := i) (by omega)
      refine m_ishr dX2_frontPlace_28 ?_
      refine m_iconstN 1 dX2_frontPlace_29 (by decide) ?_
      refine m_iand dX2_frontPlace_30 ?_
      refine m_eqi (nI_bit (by omega) (by omega)) ?_
      refine m_iconstN 1 dX2_frontPlace_31 (by decide) ?_
      have hb2 : ((bw k fb p).testBit xs[i]).toNat < 2 := Bool.toNat_lt _
      first | refine m_icmp_neN 52 dX2_frontPlace_32 (by decide) (by omega) (by omega) (fun c32 => ?_) (fun c32 => ?_) | refine m_icmp_ne 52 dX2_frontPlace_32 (by decide) (fun c32 => ?_) (fun c32 => ?_)
      · first | refine m_iincN 1 dX2_frontPlace_52 (by decide) rfl rfl ?_ | refine m_iinc dX2_frontPlace_52 rfl rfl ?_
        refine m_goto 12 dX2_frontPlace_55 (by decide) ?_
        refine ih (by omega) (fun q hq hqi => ?_)
        by_cases e : q = i
        · subst e; cases hc : (bw k fb p).testBit xs[q] <;> simp_all
        · exact hn q hq (by omega)
      · refine m_aload_n dX2_frontPlace_35 rfl ?_
        refine m_iload dX2_frontPlace_36 rfl ?_
        refine m_callVIp (s_X9_atI hj hr (n := i) (by omega)) cv_X2_38 dX2_frontPlace_38 ?_
        refine m_iload_n dX2_frontPlace_41 rfl ?_
        first | refine m_icmp_neN 50 dX2_frontPlace_42 (by decide) (by omega) (by omega) (fun c42 => ?_) (fun c42 => ?_) | refine m_icmp_ne 50 dX2_frontPlace_42 (by decide) (fun c42 => ?_) (fun c42 => ?_)
        · refine m_iconst (v := -1) dX2_frontPlace_50 (by decide) ?_
          exact m_iret (ty := .int) hR dX2_frontPlace_51 (⟨by rw [front_at xs i (by omega) (fun q hq => hn q (by omega) hq) (by cases hc : (bw k fb p).testBit xs[i] <;> simp_all), if_neg c42]; rfl, rfl⟩)
        · refine m_iload dX2_frontPlace_45 rfl ?_
          refine m_goto 51 dX2_frontPlace_47 (by decide) ?_
          exact m_iret (ty := .int) hR dX2_frontPlace_51 (⟨by rw [front_at xs i (by omega) (fun q hq => hn q (by omega) hq) (by cases hc : (bw k fb p).testBit xs[i] <;> simp_all), if_pos (Decidable.not_not.mp c42)]; rfl, rfl⟩)
    )
  refine m_aload_n dX2_frontPlace_0 rfl ?_
  refine m_get fl_X2_24 (by decide) rfl rfl dX2_frontPlace_1 ?_
  refine m_iload_n dX2_frontPlace_4 rfl ?_
  refine m_callVIp (s_X3_boundWith h (p := p) hp) cv_X2_28 dX2_frontPlace_5 ?_
  refine m_istore_n dX2_frontPlace_8 (Nat.le_of_ble_eq_true rfl) rfl ?_
  refine m_iconstN 0 dX2_frontPlace_9 (by decide) ?_
  refine m_istore dX2_frontPlace_10 (Nat.le_of_ble_eq_true rfl) rfl ?_
  exact loop 0 (Nat.zero_le _) (fun q _ hq => absurd hq (Nat.not_lt_zero q))
theorem optI_ne {o : Option Nat} (ho : ∀ i, o = some i → i < 2 ^ 31) : optI o = -1 ↔ o = none := by
  cases o with
  | none => simp [optI]
  | some i =>
    have := ho i rfl
    simp only [optI, reduceCtorEq, iff_false]
    intro z
    have h2 := nI_pos this
    rw [z] at h2
    exact h2 (by decide)
theorem s_X2_canTakeOff (h : letIs d k fb) (hj : j < 13) (hr : rowIs d j xs) {p : Nat} (hp : p < 6) : mSpecI l W mX2_canTakeOff (dep + 2) [.ref (xad W 50), .ref (xad W (j + 4)), .int (nI p)] d (fun r d' => r = (if (front (bw k fb) xs p).isSome then 1 else 0) ∧ d' = d) := by
  have h24 := hr.1
  have ho : ∀ i, front (bw k fb) xs p = some i → i < 2 ^ 31 := fun i hi => by have := front_lt hi; omega
  refine m_spec RX2 [some (.ref (xad W 50)), some (.ref (xad W (j + 4))), some (.int (nI p))] rfl (by decide +kernel) rfl rfl (fun K hR => ?_)
  refine m_aload_n dX2_canTakeOff_0 rfl ?_
  refine m_aload_n dX2_canTakeOff_1 rfl ?_
  refine m_iload_n dX2_canTakeOff_2 rfl ?_
  refine m_callVIp (s_X2_frontPlace h hj hr (p := p) hp) cv_X2_41 dX2_canTakeOff_3 ?_
  refine m_iconst (v := -1) dX2_canTakeOff_6 (by decide) ?_
  refine m_icmp_eq 14 dX2_canTakeOff_7 (by decide) (fun c7 => ?_) (fun c7 => ?_)
  · refine m_iconstN 0 dX2_canTakeOff_14 (by decide) ?_
    exact m_iret (ty := .boolean) hR dX2_canTakeOff_15 (⟨by rw [(optI_ne ho).mp c7]; rfl, rfl⟩)
  · refine m_iconstN 1 dX2_canTakeOff_10 (by decide) ?_
    refine m_goto 15 dX2_canTakeOff_11 (by decide) ?_
    exact m_iret (ty := .boolean) hR dX2_canTakeOff_15 (⟨by cases hc : front (bw k fb) xs p <;> simp_all [optI] <;> rfl, rfl⟩)
theorem s_X2_takeOff (h : letIs d k fb) (hj : j < 13) (hr : rowIs d j xs) {p : Nat} (hp : p < 6) : mSpecI l W mX2_takeOff (dep + 2) [.ref (xad W 50), .ref (xad W (j + 4)), .int (nI p)] d (fun r d' => (front (bw k fb) xs p = none ∧ r = 0 ∧ d' = d) ∨ ∃ i, front (bw k fb) xs p = some i ∧ r = 1 ∧ rowIs d' j (xs.eraseIdx i) ∧ chg [j + 4, j + 17] d d') := by
  have h24 := hr.1
  have ho : ∀ i, front (bw k fb) xs p = some i → i < 2 ^ 31 := fun i hi => by have := front_lt hi; omega
  refine m_spec RX2 [some (.ref (xad W 50)), some (.ref (xad W (j + 4))), some (.int (nI p)), none] rfl (by decide +kernel) rfl rfl (fun K hR => ?_)
  refine m_aload_n dX2_takeOff_0 rfl ?_
  refine m_aload_n dX2_takeOff_1 rfl ?_
  refine m_iload_n dX2_takeOff_2 rfl ?_
  refine m_callVIp (s_X2_frontPlace h hj hr (p := p) hp) cv_X2_41 dX2_takeOff_3 ?_
  refine m_istore_n dX2_takeOff_6 (Nat.le_of_ble_eq_true rfl) rfl ?_
  cases hc : front (bw k fb) xs p with
  | none =>
    simp only [optI]
    refine m_aload_n dX2_takeOff_7 rfl ?_
    refine m_iload_n dX2_takeOff_8 rfl ?_
    refine m_callVVp (s_X9_removeAtM hj) cv_X2_45 dX2_takeOff_9 ?_
    refine m_iload_n dX2_takeOff_12 rfl ?_
    refine m_iconst (v := -1) dX2_takeOff_13 (by decide) ?_
    refine m_icmp_eq 21 dX2_takeOff_14 (by decide) (fun c14 => ?_) (fun c14 => by exfalso; exact c14 rfl)
    refine m_iconstN 0 dX2_takeOff_21 (by decide) ?_
    exact m_iret (ty := .boolean) hR dX2_takeOff_22 (Or.inl ⟨hc, rfl, rfl⟩)
  | some i =>
    have hi := ho i hc
    simp only [optI]
    refine m_aload_n dX2_takeOff_7 rfl ?_
    refine m_iload_n dX2_takeOff_8 rfl ?_
    refine m_callVV (s_X9_removeAt hj hr (n := i) (front_lt hc)) cv_X2_45 dX2_takeOff_9 (fun d2 g2 => ?_)
    refine m_iload_n dX2_takeOff_12 rfl ?_
    refine m_iconst (v := -1) dX2_takeOff_13 (by decide) ?_
    refine m_icmp_eq 21 dX2_takeOff_14 (by decide) (fun c14 => by exfalso; exact absurd ((optI_ne (o := some i) (fun q e => by cases e; exact hi)).mp c14) (by simp)) (fun c14 => ?_)
    refine m_iconstN 1 dX2_takeOff_17 (by decide) ?_
    refine m_goto 22 dX2_takeOff_18 (by decide) ?_
    exact m_iret (ty := .boolean) hR dX2_takeOff_22 (Or.inr ⟨i, hc, rfl, g2.1, g2.2⟩)
theorem s_X2_letters : mSpecR l W mX2_letters dep [.ref (xad W 50)] d (fun r d' => r = .ref (xad W 1) ∧ d' = d) := by
  refine m_spec RX2 [some (.ref (xad W 50))] rfl (by decide +kernel) rfl rfl (fun K hR => ?_)
  refine m_aload_n dX2_letters_0 rfl ?_
  refine m_get fl_X2_24 (by decide) rfl rfl dX2_letters_1 ?_
  exact m_aret hR dX2_letters_4 (by first | exact Or.inl rfl | exact Or.inr ⟨_, rfl⟩) (⟨rfl, rfl⟩)
/-- the letters that those of xs hold back -/
def held (B : Nat → Nat) (xs : List Nat) : Nat := xs.foldl (fun s x => s ||| B x) 0
theorem held_fold (B : Nat → Nat) (xs : List Nat) : ∀ s q, (xs.foldl (fun s x => s ||| B x) s).testBit q = (s.testBit q || xs.any (fun x => (B x).testBit q)) := by
  induction xs with
  | nil => intro s q; simp
  | cons x xs ih => intro s q; rw [List.foldl_cons, ih, Nat.testBit_or, List.any_cons, Bool.or_assoc]
theorem held_tb (B : Nat → Nat) (xs : List Nat) (q : Nat) : (held B xs).testBit q = xs.any (fun x => (B x).testBit q) := by
  unfold held
  rw [held_fold]; simp
theorem held_s (B : Nat → Nat) (xs : List Nat) (x : Nat) : held B (xs ++ [x]) = held B xs ||| B x := by
  unfold held
  rw [List.foldl_append]; rfl
theorem held_lt {B : Nat → Nat} {xs : List Nat} (h : ∀ x ∈ xs, B x < 64) : held B xs < 64 := by
  refine Nat.lt_pow_two_of_testBit (n := 6) _ (fun i hi => ?_)
  rw [held_tb, List.any_eq_false]
  intro x hx
  rw [Nat.testBit_lt_two_pow (Nat.lt_of_lt_of_le (h x hx) (Nat.pow_le_pow_right (n := 2) (by decide) hi))]
  decide
theorem held_front {B : Nat → Nat} {xs : List Nat} (hb : bOk B xs) {i : Nat} (hi : i < xs.length) : (held B (xs.take i)).testBit xs[i] = false ↔ ∀ q (hq : q < i), (B xs[i]).testBit (xs[q]'(by omega)) = false := by
  rw [held_tb, List.any_eq_false]
  constructor
  · intro h q hq
    have := h xs[q] (by rw [List.mem_take_iff_getElem]; exact ⟨q, by omega, rfl⟩)
    rw [hb.1 xs[i] (List.getElem_mem _) xs[q] (List.getElem_mem _)]
    cases hc : (B xs[q]).testBit xs[i] <;> simp_all
  · intro h x hx
    obtain ⟨q, hq, rfl⟩ := List.mem_take_iff_getElem.mp hx
    have := h q (by omega)
    rw [hb.1 xs[i] (List.getElem_mem _) xs[q] (List.getElem_mem _)] at this
    rw [this]; decide
theorem s_X2_leastFrontPlace (h : letIs d k fb) (hj : j < 13) (hr : rowIs d j xs) (hx : ∀ x ∈ xs, x < k) (hne : xs ≠ []) : mSpecI l W mX2_leastFrontPlace (dep + 1) [.ref (xad W 50), .ref (xad W (j + 4))] d (fun r d' => (∃ (n : Nat) (hn : n < xs.length), r = nI n ∧ leastL (bw k fb) xs = some xs[n] ∧ front (bw k fb) xs xs[n] = some n) ∧ d' = d) := by
  have hk := h.2.2.2.1
  have h24 := hr.1
  have hb := bw_ok h.2.2 hx
  have hl0 : 0 < xs.length := List.length_pos_of_ne_nil hne
  have h64 : ∀ i, held (bw k fb) (xs.take i) < 64 := fun i => held_lt (fun x hx1 => bw_lt64 h.2.2 (by have := hx x (List.mem_of_mem_take hx1); omega))
  refine m_spec RX2 [some (.ref (xad W 50)), some (.ref (xad W (j + 4))), none, none, none, none] rfl (by decide +kernel) rfl rfl (fun K hR => ?_)
  have loop : ∀ i, i ≤ xs.length → ∀ (m : Nat) (o5 : Option Value) (hm : m < xs.length), (m < i ∨ m = 0) → (∀ q (hq : q < m), (bw k fb xs[m]).testBit (xs[q]'(by omega)) = false) → (∀ s (hs : s < xs.length), s < i → (∀ q (hq : q < s), (bw k fb xs[s]).testBit (xs[q]'(by omega)) = false) → xs[m] ≤ xs[s]) → mG W K cX2_leastFrontPlace RX2 (dep + 1) d 7 [some (.ref (xad W 50)), some (.ref (xad W (j + 4))), some (.int (nI (held (bw k fb) (xs.take i)))), some (.int (nI m)), some (.int (nI i)), o5] [] := x_up _ (fun i hi ih m o5 hm g0 g1 g2 => by
    have h64i := h64 i
    refine m_iload dX2_leastFrontPlace_7 rfl ?_
    refine m_aload_n dX2_leastFrontPlace_9 rfl ?_
    refine m_callVIp (s_X9_length hj hr) cv_X2_34 dX2_leastFrontPlace_10 ?_
    first | refine m_icmp_geN 64 dX2_leastFrontPlace_13 (by decide) (by omega) (by omega) (fun c13 => ?_) (fun c13 => ?_) | refine m_icmp_ge 64 dX2_leastFrontPlace_13 (by decide) (fun c13 => ?_) (fun c13 => ?_)
    · refine m_iload_n dX2_leastFrontPlace_64 rfl ?_
      exact m_iret (ty := .int) hR dX2_leastFrontPlace_65 (⟨⟨m, hm, rfl, leastL_place hb hm g1 (fun s hs => g2 s hs (by omega))⟩, rfl⟩)
    · refine m_aload_n dX2_leastFrontPlace_16 rfl ?_
      refine m_iload dX2_leastFrontPlace_17 rfl ?_
      refine m_callVIp (s_X9_atI hj hr (n := i) (by omega)) cv_X2_38 dX2_leastFrontPlace_19 ?_
      refine m_istore dX2_leastFrontPlace_22 (Nat.le_of_ble_eq_true rfl) rfl ?_
      refine m_iload_n dX2_leastFrontPlace_24 rfl ?_
      refine m_iload dX2_leastFrontPlace_25 rfl ?_
      have hbi := hr.lt (i := i) (by omega)
      have hbm := hr.lt (i := m) (by omega)
      refine m_ishr dX2_leastFrontPlace_27 ?_
      refine m_iconstN 1 dX2_leastFrontPlace_28 (by decide) ?_
      refine m_iand dX2_leastFrontPlace_29 ?_
      refine m_eqi (nI_bit (by omega) (by omega)) ?_
      have hb2 : ((held (bw k fb) (xs.take i)).testBit xs[i]).toNat < 2 := Bool.toNat_lt _
      first | refine m_if_neN 46 dX2_leastFrontPlace_30 (by decide) (by omega) (fun c30 => ?_) (fun c30 => ?_) | refine m_if_ne 46 dX2_leastFrontPlace_30 (by decide) (fun c30 => ?_) (fun c30 => ?_)
      · refine m_iload_n dX2_leastFrontPlace_46 rfl ?_
        refine m_aload_n dX2_leastFrontPlace_47 rfl ?_
        refine m_get fl_X2_24 (by decide) rfl rfl dX2_leastFrontPlace_48 ?_
        refine m_iload dX2_leastFrontPlace_51 rfl ?_
        refine m_callVIp (s_X3_boundWith h (p := xs[i]) (by omega)) cv_X2_28 dX2_leastFrontPlace_53 ?_
        refine m_ior dX2_leastFrontPlace_56 ?_
        refine m_eqi (nI_or _ _) ?_
        refine m_istore_n dX2_leastFrontPlace_57 (Nat.le_of_ble_eq_true rfl) rfl ?_
        first | refine m_iincN 1 dX2_leastFrontPlace_58 (by decide) rfl rfl ?_ | refine m_iinc dX2_leastFrontPlace_58 rfl rfl ?_
        refine m_goto 7 dX2_leastFrontPlace_61 (by decide) ?_
        refine (ih (by omega) m _ hm (by omega) g1 (fun s hs hsi hf => ?_) : mG W K cX2_leastFrontPlace RX2 (dep + 1) d 7 [some (.ref (xad W 50)), some (.ref (xad W (j + 4))), some (.int (nI (held (bw k fb) (xs.take (i + 1))))), some (.int (nI m)), some (.int (nI (i + 1))), some (.int (nI xs[i]))] []) |> (fun e => by rw [take_s (by omega), held_s] at e; exact e)
        by_cases e : s = i
        · subst e
          have := (held_front hb hs).mpr hf
          rw [this] at c30
          exact absurd rfl c30
        · exact g2 s hs (by omega) hf
      · refine m_iload dX2_leastFrontPlace_33 rfl ?_
        refine m_aload_n dX2_leastFrontPlace_35 rfl ?_
        refine m_iload_n dX2_leastFrontPlace_36 rfl ?_
        refine m_callVIp (s_X9_atI hj hr (n := m) (by omega)) cv_X2_38 dX2_leastFrontPlace_37 ?_
        first | refine m_icmp_geN 46 dX2_leastFrontPlace_40 (by decide) (by omega) (by omega) (fun c40 => ?_) (fun c40 => ?_) | refine m_icmp_ge 46 dX2_leastFrontPlace_40 (by decide) (fun c40 => ?_) (fun c40 => ?_)
        · refine m_iload_n dX2_leastFrontPlace_46 rfl ?_
          refine m_aload_n dX2_leastFrontPlace_47 rfl ?_
          refine m_get fl_X2_24 (by decide) rfl rfl dX2_leastFrontPlace_48 ?_
          refine m_iload dX2_leastFrontPlace_51 rfl ?_
          refine m_callVIp (s_X3_boundWith h (p := xs[i]) (by omega)) cv_X2_28 dX2_leastFrontPlace_53 ?_
          refine m_ior dX2_leastFrontPlace_56 ?_
          refine m_eqi (nI_or _ _) ?_
          refine m_istore_n dX2_leastFrontPlace_57 (Nat.le_of_ble_eq_true rfl) rfl ?_
          first | refine m_iincN 1 dX2_leastFrontPlace_58 (by decide) rfl rfl ?_ | refine m_iinc dX2_leastFrontPlace_58 rfl rfl ?_
          refine m_goto 7 dX2_leastFrontPlace_61 (by decide) ?_
          refine (ih (by omega) m _ hm (by omega) g1 (fun s hs hsi hf => ?_) : mG W K cX2_leastFrontPlace RX2 (dep + 1) d 7 [some (.ref (xad W 50)), some (.ref (xad W (j + 4))), some (.int (nI (held (bw k fb) (xs.take (i + 1))))), some (.int (nI m)), some (.int (nI (i + 1))), some (.int (nI xs[i]))] []) |> (fun e => by rw [take_s (by omega), held_s] at e; exact e)
          by_cases e : s = i
          · subst e; exact c40
          · exact g2 s hs (by omega) hf
        · refine m_iload dX2_leastFrontPlace_43 rfl ?_
          refine m_istore_n dX2_leastFrontPlace_45 (Nat.le_of_ble_eq_true rfl) rfl ?_
          refine m_iload_n dX2_leastFrontPlace_46 rfl ?_
          refine m_aload_n dX2_leastFrontPlace_47 rfl ?_
          refine m_get fl_X2_24 (by decide) rfl rfl dX2_leastFrontPlace_48 ?_
          refine m_iload dX2_leastFrontPlace_51 rfl ?_
          refine m_callVIp (s_X3_boundWith h (p := xs[i]) (by omega)) cv_X2_28 dX2_leastFrontPlace_53 ?_
          refine m_ior dX2_leastFrontPlace_56 ?_
          refine m_eqi (nI_or _ _) ?_
          refine m_istore_n dX2_leastFrontPlace_57 (Nat.le_of_ble_eq_true rfl) rfl ?_
          first | refine m_iincN 1 dX2_leastFrontPlace_58 (by decide) rfl rfl ?_ | refine m_iinc dX2_leastFrontPlace_58 rfl rfl ?_
          refine m_goto 7 dX2_leastFrontPlace_61 (by decide) ?_
          refine (ih (by omega) i _ (by omega) (by omega) ?_ (fun s hs hsi hf => ?_) : mG W K cX2_leastFrontPlace RX2 (dep + 1) d 7 [some (.ref (xad W 50)), some (.ref (xad W (j + 4))), some (.int (nI (held (bw k fb) (xs.take (i + 1))))), some (.int (nI i)), some (.int (nI (i + 1))), some (.int (nI xs[i]))] []) |> (fun e => by rw [take_s (by omega), held_s] at e; exact e)
          · refine (held_front hb (by omega)).mp ?_
            cases hc : (held (bw k fb) (xs.take i)).testBit xs[i]
            · rfl
            · rw [hc] at c30; exact absurd rfl c30
          · by_cases e : s = i
            · subst e; exact Nat.le_refl _
            · have := g2 s hs (by omega) hf; omega
    )
  refine m_iconstN 0 dX2_leastFrontPlace_0 (by decide) ?_
  refine m_istore_n dX2_leastFrontPlace_1 (Nat.le_of_ble_eq_true rfl) rfl ?_
  refine m_iconstN 0 dX2_leastFrontPlace_2 (by decide) ?_
  refine m_istore_n dX2_leastFrontPlace_3 (Nat.le_of_ble_eq_true rfl) rfl ?_
  refine m_iconstN 0 dX2_leastFrontPlace_4 (by decide) ?_
  refine m_istore dX2_leastFrontPlace_5 (Nat.le_of_ble_eq_true rfl) rfl ?_
  exact loop 0 (Nat.zero_le _) 0 none hl0 (Or.inr rfl) (fun q hq => absurd hq (Nat.not_lt_zero q)) (fun s _ hs => absurd hs (Nat.not_lt_zero s))
end HEA
