/-! class Heaps: the rest -/
def unl (k : Nat) (fb : Nat → Nat) (xs ys : List Nat) (p q : Nat) : Bool := !(fb p).testBit q && decide (look xs (2 ^ p ||| 2 ^ q) ≠ look ys (2 ^ p ||| 2 ^ q))
def eqvB (k : Nat) (fb : Nat → Nat) (xs ys : List Nat) : Bool := (List.range k).all (fun p => (List.range k).all (fun q => !(decide (p ≤ q) && unl k fb xs ys p q)))
theorem eqvB_t {k : Nat} {fb : Nat → Nat} {xs ys : List Nat} (h : ∀ p q, p ≤ q → q < k → unl k fb xs ys p q = false) : eqvB k fb xs ys = true :=
  List.all_eq_true.mpr (fun p _ => List.all_eq_true.mpr (fun q hq => by
    by_cases e : p ≤ q
    · rw [h p q e (List.mem_range.mp hq)]; simp
    · simp [e]))
theorem eqvB_f {k : Nat} {fb : Nat → Nat} {xs ys : List Nat} (h : eqvB k fb xs ys = true) {p q : Nat} (hp : p ≤ q) (hq : q < k) : unl k fb xs ys p q = false := by
  have := List.all_eq_true.mp (List.all_eq_true.mp h p (List.mem_range.mpr (by omega))) q (List.mem_range.mpr hq)
  simpa [hp] using this
theorem apIs.eqv {k : Nat} {fb : Nat → Nat} {xs ys : List Nat} {r : Int32} (hk : k ≤ 6) (h : apIs k (unl k fb xs ys) r) : r = -1 ↔ eqvB k fb xs ys = true := by
  rcases h with ⟨h1, h2⟩ | ⟨p, q, h1, h2, h3, h4, h5⟩
  · exact ⟨fun _ => eqvB_t h2, fun _ => h1⟩
  · constructor
    · intro z
      rw [h5] at z
      have := nI_pos (n := 8 * p + q) (by omega)
      rw [z] at this
      exact absurd (by decide) this
    · intro z
      rw [eqvB_f z h1 h2] at h3; cases h3
section HEB
variable {l : Launch} {W : xW} {dep : Nat} {d : xD} {k : Nat} {fb : Nat → Nat} {j j2 : Nat} {xs ys : List Nat}
theorem s_X2_firstUnlikeLook (h : letIs d k fb) (hj : j < 13) (hr : rowIs d j xs) (hj2 : j2 < 13) (hr2 : rowIs d j2 ys) : mSpecI l W mX2_firstUnlikeLook (dep + 3) [.ref (xad W 50), .ref (xad W (j + 4)), .ref (xad W (j2 + 4))] d (fun r d' => apIs k (unl k fb xs ys) r ∧ d' = d) := by
  have hk := h.2.2.2.1
  refine m_spec RX2 [some (.ref (xad W 50)), some (.ref (xad W (j + 4))), some (.ref (xad W (j2 + 4))), none, none] rfl (by decide +kernel) rfl rfl (fun K hR => ?_)
  have inner : ∀ p, p < k → (∀ p' q', p' ≤ q' → q' < k → p' < p → unl k fb xs ys p' q' = false) → ((∀ p' q', p' ≤ q' → q' < k → p' < p + 1 → unl k fb xs ys p' q' = false) → ∀ o4, mG W K cX2_firstUnlikeLook RX2 (dep + 3) d 2 [some (.ref (xad W 50)), some (.ref (xad W (j + 4))), some (.ref (xad W (j2 + 4))), some (.int (nI (p + 1))), o4] []) → ∀ q, q ≤ k → p ≤ q → (∀ q', p ≤ q' → q' < q → unl k fb xs ys p q' = false) → mG W K cX2_firstUnlikeLook RX2 (dep + 3) d 16 [some (.ref (xad W 50)), some (.ref (xad W (j + 4))), some (.ref (xad W (j2 + 4))), some (.int (nI p)), some (.int (nI q))] [] := fun p hp hu hc => x_up _ (fun q hq ih hpq hg => by
    refine m_iload dX2_firstUnlikeLook_16 rfl ?_
    refine m_aload_n dX2_firstUnlikeLook_18 rfl ?_
    refine m_get fl_X2_24 (by decide) rfl rfl dX2_firstUnlikeLook_19 ?_
    refine m_callVIp (s_X3_size h) cv_X2_68 dX2_firstUnlikeLook_22 ?_
    first | refine m_icmp_geN 71 dX2_firstUnlikeLook_25 (by decide) (by omega) (by omega) (fun c25 => ?_) (fun c25 => ?_) | refine m_icmp_ge 71 dX2_firstUnlikeLook_25 (by decide) (fun c25 => ?_) (fun c25 => ?_)
    · first | refine m_iincN 1 dX2_firstUnlikeLook_71 (by decide) rfl rfl ?_ | refine m_iinc dX2_firstUnlikeLook_71 rfl rfl ?_
      refine m_goto 2 dX2_firstUnlikeLook_74 (by decide) ?_
      refine hc (fun p' q' a b c => ?_) _
      by_cases e : p' = p
      · subst e; exact hg q' a (by omega)
      · exact hu p' q' a b (by omega)
    · refine m_aload_n dX2_firstUnlikeLook_28 rfl ?_
      refine m_get fl_X2_24 (by decide) rfl rfl dX2_firstUnlikeLook_29 ?_
      refine m_iload_n dX2_firstUnlikeLook_32 rfl ?_
      refine m_iload dX2_firstUnlikeLook_33 rfl ?_
      refine m_callVIp (s_X3_areFree h (p := p) (q := q) (by omega) (by omega)) cv_X2_71 dX2_firstUnlikeLook_35 ?_
      refine m_if_ne 65 dX2_firstUnlikeLook_38 (by decide) (fun c38 => ?_) (fun c38 => ?_)
      · first | refine m_iincN 1 dX2_firstUnlikeLook_65 (by decide) rfl rfl ?_ | refine m_iinc dX2_firstUnlikeLook_65 rfl rfl ?_
        refine m_goto 16 dX2_firstUnlikeLook_68 (by decide) ?_
        refine ih (by omega) (by omega) (fun q' a b => ?_)
        by_cases e : q' = q
        · subst e; unfold unl; cases hf : (fb p).testBit q' <;> simp_all
        · exact hg q' a (by omega)
      · refine m_aload_n dX2_firstUnlikeLook_41 rfl ?_
        refine m_aload_n dX2_firstUnlikeLook_42 rfl ?_
        refine m_iconstN 1 dX2_firstUnlikeLook_43 (by decide) ?_
        refine m_iload_n dX2_firstUnlikeLook_44 rfl ?_
        refine m_ishl dX2_firstUnlikeLook_45 ?_
        refine m_eqi (nI_sb1 p (by omega)) ?_
        refine m_iconstN 1 dX2_firstUnlikeLook_46 (by decide) ?_
        refine m_iload dX2_firstUnlikeLook_47 rfl ?_
        refine m_ishl dX2_firstUnlikeLook_49 ?_
        refine m_eqi (nI_sb1 q (by omega)) ?_
        refine m_ior dX2_firstUnlikeLook_50 ?_
        refine m_eqi (nI_or _ _) ?_
        refine m_callSIp (s_X2_lookAlike hj hr hj2 hr2 (s := 2 ^ p ||| 2 ^ q) (Nat.or_lt_two_pow (n := 6) (Nat.pow_lt_pow_right (by decide) (by omega)) (Nat.pow_lt_pow_right (by decide) (by omega)))) cs_X2_75 dX2_firstUnlikeLook_51 ?_
        refine m_if_ne 65 dX2_firstUnlikeLook_54 (by decide) (fun c54 => ?_) (fun c54 => ?_)
        · first | refine m_iincN 1 dX2_firstUnlikeLook_65 (by decide) rfl rfl ?_ | refine m_iinc dX2_firstUnlikeLook_65 rfl rfl ?_
          refine m_goto 16 dX2_firstUnlikeLook_68 (by decide) ?_
          refine ih (by omega) (by omega) (fun q' a b => ?_)
          by_cases e : q' = q
          · subst e; unfold unl; cases hf : (fb p).testBit q' <;> simp_all
          · exact hg q' a (by omega)
        · refine m_bipushN 8 dX2_firstUnlikeLook_57 (by decide) ?_
          refine m_iload_n dX2_firstUnlikeLook_59 rfl ?_
          first | refine m_imulN dX2_firstUnlikeLook_60 ?_ | refine m_imul dX2_firstUnlikeLook_60 ?_
          refine m_iload dX2_firstUnlikeLook_61 rfl ?_
          first | refine m_iaddN dX2_firstUnlikeLook_63 ?_ | refine m_iadd dX2_firstUnlikeLook_63 ?_
          exact m_iret (ty := .int) hR dX2_firstUnlikeLook_64 (⟨Or.inr ⟨p, q, hpq, by omega, by unfold unl; cases hf : (fb p).testBit q <;> simp_all, fun p' q' a b c => by rcases c with c | ⟨rfl, c⟩; exact hu p' q' a b c; exact hg q' a c, rfl⟩, rfl⟩)
    )
  have loop : ∀ p, p ≤ k → (∀ p' q', p' ≤ q' → q' < k → p' < p → unl k fb xs ys p' q' = false) → ∀ o4, mG W K cX2_firstUnlikeLook RX2 (dep + 3) d 2 [some (.ref (xad W 50)), some (.ref (xad W (j + 4))), some (.ref (xad W (j2 + 4))), some (.int (nI p)), o4] [] := x_up _ (fun p hp ih hu o4 => by
    refine m_iload_n dX2_firstUnlikeLook_2 rfl ?_
    refine m_aload_n dX2_firstUnlikeLook_3 rfl ?_
    refine m_get fl_X2_24 (by decide) rfl rfl dX2_firstUnlikeLook_4 ?_
    refine m_callVIp (s_X3_size h) cv_X2_68 dX2_firstUnlikeLook_7 ?_
    first | refine m_icmp_geN 77 dX2_firstUnlikeLook_10 (by decide) (by omega) (by omega) (fun c10 => ?_) (fun c10 => ?_) | refine m_icmp_ge 77 dX2_firstUnlikeLook_10 (by decide) (fun c10 => ?_) (fun c10 => ?_)
    · refine m_iconst (v := -1) dX2_firstUnlikeLook_77 (by decide) ?_
      exact m_iret (ty := .int) hR dX2_firstUnlikeLook_78 (⟨Or.inl ⟨rfl, fun p' q' a b => hu p' q' a b (by omega)⟩, rfl⟩)
    · refine m_iload_n dX2_firstUnlikeLook_13 rfl ?_
      refine m_istore dX2_firstUnlikeLook_14 (Nat.le_of_ble_eq_true rfl) rfl ?_
      exact inner p (by omega) hu (ih (by omega)) p hp (Nat.le_refl _) (fun q' a b => by omega)
    )
  refine m_iconstN 0 dX2_firstUnlikeLook_0 (by decide) ?_
  refine m_istore_n dX2_firstUnlikeLook_1 (Nat.le_of_ble_eq_true rfl) rfl ?_
  exact loop 0 (Nat.zero_le _) (fun _ _ _ _ z => absurd z (Nat.not_lt_zero _)) none
theorem s_X2_areOne (h : letIs d k fb) (hj : j < 13) (hr : rowIs d j xs) (hj2 : j2 < 13) (hr2 : rowIs d j2 ys) : mSpecI l W mX2_areOne (dep + 4) [.ref (xad W 50), .ref (xad W (j + 4)), .ref (xad W (j2 + 4))] d (fun r d' => r = (if eqvB k fb xs ys then 1 else 0) ∧ d' = d) := by
  have hk := h.2.2.2.1
  refine m_spec RX2 [some (.ref (xad W 50)), some (.ref (xad W (j + 4))), some (.ref (xad W (j2 + 4)))] rfl (by decide +kernel) rfl rfl (fun K hR => ?_)
  refine m_aload_n dX2_areOne_0 rfl ?_
  refine m_aload_n dX2_areOne_1 rfl ?_
  refine m_aload_n dX2_areOne_2 rfl ?_
  refine m_callVI (s_X2_firstUnlikeLook h hj hr hj2 hr2) cv_X2_64 dX2_areOne_3 (fun r3 d3 h3 => ?_)
  obtain ⟨h3, rfl⟩ := h3
  refine m_iconst (v := -1) dX2_areOne_6 (by decide) ?_
  refine m_icmp_ne 14 dX2_areOne_7 (by decide) (fun c7 => ?_) (fun c7 => ?_)
  · refine m_iconstN 0 dX2_areOne_14 (by decide) ?_
    exact m_iret (ty := .boolean) hR dX2_areOne_15 (⟨by rw [if_neg (fun z => c7 ((h3.eqv hk).mpr z))]; rfl, rfl⟩)
  · refine m_iconstN 1 dX2_areOne_10 (by decide) ?_
    refine m_goto 15 dX2_areOne_11 (by decide) ?_
    exact m_iret (ty := .boolean) hR dX2_areOne_15 (⟨by rw [if_pos ((h3.eqv hk).mp (Decidable.not_not.mp c7))]; rfl, rfl⟩)
/-- the letters below n that can come to the front, by bits -/
def fbits (B : Nat → Nat) (xs : List Nat) (n : Nat) : Nat := (List.range n).foldl (fun s p => if (front B xs p).isSome then s ||| 2 ^ p else s) 0
theorem fbits_s (B : Nat → Nat) (xs : List Nat) (n : Nat) : fbits B xs (n + 1) = if (front B xs n).isSome then fbits B xs n ||| 2 ^ n else fbits B xs n := by
  unfold fbits
  rw [List.range_succ, List.foldl_append]; rfl
theorem fbits_lt (B : Nat → Nat) (xs : List Nat) : ∀ n, n ≤ 6 → fbits B xs n < 64 := by
  intro n
  induction n with
  | zero => intro _; show 0 < 64; decide
  | succ n ih =>
    intro h
    have h1 := ih (by omega)
    have h2 : 2 ^ n < 2 ^ 6 := Nat.pow_lt_pow_right (by decide) (by omega)
    rw [fbits_s]
    split
    · exact Nat.or_lt_two_pow (n := 6) h1 h2
    · exact h1
def tk (B : Nat → Nat) (xs : List Nat) (p : Nat) : List Nat := match front B xs p with
  | some i => xs.eraseIdx i
  | none => xs
def tkAll (B : Nat → Nat) (s : Nat) (xs : List Nat) (n : Nat) : List Nat := (List.range n).foldl (fun ys p => if s.testBit p then tk B ys p else ys) xs
theorem tkAll_s (B : Nat → Nat) (s : Nat) (xs : List Nat) (n : Nat) : tkAll B s xs (n + 1) = if s.testBit n then tk B (tkAll B s xs n) n else tkAll B s xs n := by
  unfold tkAll
  rw [List.range_succ, List.foldl_append]; rfl
theorem s_X2_frontBits (h : letIs d k fb) (hj : j < 13) (hr : rowIs d j xs) : mSpecI l W mX2_frontBits (dep + 3) [.ref (xad W 50), .ref (xad W (j + 4))] d (fun r d' => r = nI (fbits (bw k fb) xs k) ∧ d' = d) := by
  have hk := h.2.2.2.1
  refine m_spec RX2 [some (.ref (xad W 50)), some (.ref (xad W (j + 4))), none, none] rfl (by decide +kernel) rfl rfl (fun K hR => ?_)
  have loop : ∀ p, p ≤ k → mG W K cX2_frontBits RX2 (dep + 3) d 4 [some (.ref (xad W 50)), some (.ref (xad W (j + 4))), some (.int (nI (fbits (bw k fb) xs p))), some (.int (nI p))] [] := x_up _ (fun p hp ih => by
    refine m_iload_n dX2_frontBits_4 rfl ?_
    refine m_aload_n dX2_frontBits_5 rfl ?_
    refine m_get fl_X2_24 (by decide) rfl rfl dX2_frontBits_6 ?_
    refine m_callVIp (s_X3_size h) cv_X2_68 dX2_frontBits_9 ?_
    first | refine m_icmp_geN 36 dX2_frontBits_12 (by decide) (by omega) (by omega) (fun c12 => ?_) (fun c12 => ?_) | refine m_icmp_ge 36 dX2_frontBits_12 (by decide) (fun c12 => ?_) (fun c12 => ?_)
    · refine m_iload_n dX2_frontBits_36 rfl ?_
      have e6 : p = k := by omega
      subst e6
      exact m_iret (ty := .int) hR dX2_frontBits_37 (⟨rfl, rfl⟩)
    · refine m_aload_n dX2_frontBits_15 rfl ?_
      refine m_aload_n dX2_frontBits_16 rfl ?_
      refine m_iload_n dX2_frontBits_17 rfl ?_
      refine m_callVIp (s_X2_canTakeOff h hj hr (p := p) (by omega)) cv_X2_90 dX2_frontBits_18 ?_
      refine m_if_eq 30 dX2_frontBits_21 (by decide) (fun c21 => ?_) (fun c21 => ?_)
      · first | refine m_iincN 1 dX2_frontBits_30 (by decide) rfl rfl ?_ | refine m_iinc dX2_frontBits_30 rfl rfl ?_
        refine m_goto 4 dX2_frontBits_33 (by decide) ?_
        have e := ih (by omega)
        rw [fbits_s, if_neg (by cases hf : (front (bw k fb) xs p).isSome <;> simp_all)] at e
        exact e
      · refine m_iload_n dX2_frontBits_24 rfl ?_
        refine m_iconstN 1 dX2_frontBits_25 (by decide) ?_
        refine m_iload_n dX2_frontBits_26 rfl ?_
        refine m_ishl dX2_frontBits_27 ?_
        refine m_eqi (nI_sb1 p (by omega)) ?_
        refine m_ior dX2_frontBits_28 ?_
        refine m_eqi (nI_or _ _) ?_
        refine m_istore_n dX2_frontBits_29 (Nat.le_of_ble_eq_true rfl) rfl ?_
        first | refine m_iincN 1 dX2_frontBits_30 (by decide) rfl rfl ?_ | refine m_iinc dX2_frontBits_30 rfl rfl ?_
        refine m_goto 4 dX2_frontBits_33 (by decide) ?_
        have e := ih (by omega)
        rw [fbits_s, if_pos (by cases hf : (front (bw k fb) xs p).isSome <;> simp_all)] at e
        exact e
    )
  refine m_iconstN 0 dX2_frontBits_0 (by decide) ?_
  refine m_istore_n dX2_frontBits_1 (Nat.le_of_ble_eq_true rfl) rfl ?_
  refine m_iconstN 0 dX2_frontBits_2 (by decide) ?_
  refine m_istore_n dX2_frontBits_3 (Nat.le_of_ble_eq_true rfl) rfl ?_
  exact loop 0 (Nat.zero_le _)
theorem s_X2_takeOffAll (h : letIs d k fb) (hj : j < 13) (hr : rowIs d j xs) {s : Nat} (hs : s < 64) : mSpecV l W mX2_takeOffAll (dep + 3) [.ref (xad W 50), .ref (xad W (j + 4)), .int (nI s)] d (fun d' => rowIs d' j (tkAll (bw k fb) s xs k) ∧ chg [j + 4, j + 17] d d') := by
  have hk := h.2.2.2.1
  refine m_spec RX2 [some (.ref (xad W 50)), some (.ref (xad W (j + 4))), some (.int (nI s)), none] rfl (by decide +kernel) rfl rfl (fun K hR => ?_)
  have loop : ∀ p, p ≤ k → ∀ d1, rowIs d1 j (tkAll (bw k fb) s xs p) → chg [j + 4, j + 17] d d1 → mG W K cX2_takeOffAll RX2 (dep + 3) d1 2 [some (.ref (xad W 50)), some (.ref (xad W (j + 4))), some (.int (nI s)), some (.int (nI p))] [] := x_up _ (fun p hp ih d1 g1 g2 => by
    have hl1 : letIs d1 k fb := h.fr g2 (by simp <;> omega) (by simp <;> omega)
    refine m_iload_n dX2_takeOffAll_2 rfl ?_
    refine m_aload_n dX2_takeOffAll_3 rfl ?_
    refine m_get fl_X2_24 (by decide) rfl rfl dX2_takeOffAll_4 ?_
    refine m_callVIp (s_X3_size hl1) cv_X2_68 dX2_takeOffAll_7 ?_
    first | refine m_icmp_geN 35 dX2_takeOffAll_10 (by decide) (by omega) (by omega) (fun c10 => ?_) (fun c10 => ?_) | refine m_icmp_ge 35 dX2_takeOffAll_10 (by decide) (fun c10 => ?_) (fun c10 => ?_)
    · have e6 : p = k := by omega
      subst e6
      exact m_vret hR dX2_takeOffAll_35 (⟨g1, g2⟩)
    · refine m_iload_n dX2_takeOffAll_13 rfl ?_
      refine m_iload_n dX2_takeOffAll_14 rfl ?_
      refine m_ishr dX2_takeOffAll_15 ?_
      refine m_iconstN 1 dX2_takeOffAll_16 (by decide) ?_
      refine m_iand dX2_takeOffAll_17 ?_
      refine m_eqi (nI_bit (by omega) (by omega)) ?_
      refine m_iconstN 1 dX2_takeOffAll_18 (by decide) ?_
      have hb2 : (s.testBit p).toNat < 2 := Bool.toNat_lt _
      first | refine m_icmp_neN 29 dX2_takeOffAll_19 (by decide) (by omega) (by omega) (fun c19 => ?_) (fun c19 => ?_) | refine m_icmp_ne 29 dX2_takeOffAll_19 (by decide) (fun c19 => ?_) (fun c19 => ?_)
      · first | refine m_iincN 1 dX2_takeOffAll_29 (by decide) rfl rfl ?_ | refine m_iinc dX2_takeOffAll_29 rfl rfl ?_
        refine m_goto 2 dX2_takeOffAll_32 (by decide) ?_
        refine ih (by omega) _ ?_ g2
        rw [tkAll_s, if_neg (by cases hf : s.testBit p <;> simp_all)]
        exact g1
      · refine m_aload_n dX2_takeOffAll_22 rfl ?_
        refine m_aload_n dX2_takeOffAll_23 rfl ?_
        refine m_iload_n dX2_takeOffAll_24 rfl ?_
        refine m_callVI (s_X2_takeOff hl1 hj g1 (p := p) (by omega)) cv_X2_94 dX2_takeOffAll_25 (fun r25 d25 h25 => ?_)
        refine m_pop dX2_takeOffAll_28 rfl ?_
        first | refine m_iincN 1 dX2_takeOffAll_29 (by decide) rfl rfl ?_ | refine m_iinc dX2_takeOffAll_29 rfl rfl ?_
        refine m_goto 2 dX2_takeOffAll_32 (by decide) ?_
        have hf : s.testBit p = true := by cases hf : s.testBit p <;> simp_all
        rcases h25 with ⟨a1, a2, a3⟩ | ⟨i, a1, a2, a3, a4⟩
        · subst a3
          refine ih (by omega) _ ?_ g2
          rw [tkAll_s, if_pos hf]; unfold tk; rw [a1]; exact g1
        · refine ih (by omega) _ ?_ (g2.tr a4)
          rw [tkAll_s, if_pos hf]; unfold tk; rw [a1]; exact a3
    )
  refine m_iconstN 0 dX2_takeOffAll_0 (by decide) ?_
  refine m_istore_n dX2_takeOffAll_1 (Nat.le_of_ble_eq_true rfl) rfl ?_
  exact loop 0 (Nat.zero_le _) d hr chg.rf
/-- the layers, by bits -/
def layF (B : Nat → Nat) (k : Nat) : Nat → List Nat → List Nat
  | 0, _ => []
  | n + 1, xs => if xs = [] then [] else fbits B xs k :: layF B k n (tkAll B (fbits B xs k) xs k)
theorem layF_s {B : Nat → Nat} {k n : Nat} {xs : List Nat} (h : xs ≠ []) : layF B k (n + 1) xs = fbits B xs k :: layF B k n (tkAll B (fbits B xs k) xs k) := by
  show (if xs = [] then [] else _) = _
  rw [if_neg h]
theorem layF_0 {B : Nat → Nat} {k n : Nat} : layF B k n [] = [] := by cases n <;> rfl
theorem s_X2_layerBits (h : letIs d k fb) (hj : j < 13) (hj5 : j ≠ 5) (hr : rowIs d j xs) {n : Nat} (hn : n < 2 ^ 31) : mSpecI l W mX2_layerBits (dep + 4) [.ref (xad W 50), .ref (xad W (j + 4)), .int (nI n)] d (fun r d' => r = optI ((layF (bw k fb) k 24 xs)[n]?) ∧ chg [9, 22] d d') := by
  have hk := h.2.2.2.1
  have hneg : ¬ nI n = -1 := fun z => by have := nI_pos hn; rw [z] at this; exact this (by decide)
  refine m_spec RX2 [some (.ref (xad W 50)), some (.ref (xad W (j + 4))), some (.int (nI n)), none, none] rfl (by decide +kernel) rfl rfl (fun K hR => ?_)
  have loop : ∀ t, t ≤ 24 → ∀ (ys : List Nat) (d1 : xD) (o4 : Option Value), t ≤ n → rowIs d1 5 ys → chg [9, 22] d d1 → (layF (bw k fb) k 24 xs)[n]? = (layF (bw k fb) k (24 - t) ys)[n - t]? → mG W K cX2_layerBits RX2 (dep + 4) d1 10 [some (.ref (xad W 50)), some (.ref (xad W (j + 4))), some (.int (nI n)), some (.int (nI t)), o4] [] := x_up _ (fun t ht ih ys d1 o4 g1 g2 g3 g4 => by
    have hl1 : letIs d1 k fb := h.fr g3 (by simp) (by simp)
    have hy24 := g2.1
    refine m_aload_n dX2_layerBits_10 rfl ?_
    refine m_get fl_X2_12 (by decide) rfl rfl dX2_layerBits_11 ?_
    refine m_callVIp (s_X9_length (j := 5) (by decide) g2) cv_X2_34 dX2_layerBits_14 ?_
    first | refine m_if_leN 60 dX2_layerBits_17 (by decide) (by omega) (fun c17 => ?_) (fun c17 => ?_) | refine m_if_le 60 dX2_layerBits_17 (by decide) (fun c17 => ?_) (fun c17 => ?_)
    · refine m_iload_n dX2_layerBits_60 rfl ?_
      refine m_iconst (v := -1) dX2_layerBits_61 (by decide) ?_
      refine m_icmp_ne 69 dX2_layerBits_62 (by decide) (fun c62 => ?_) (fun c62 => by exfalso; exact c62 hneg)
      refine m_iconst (v := -1) dX2_layerBits_69 (by decide) ?_
      exact m_iret (ty := .int) hR dX2_layerBits_70 (⟨by rw [g4, List.eq_nil_of_length_eq_zero c17, layF_0]; rfl, g3⟩)
    · refine m_iload_n dX2_layerBits_20 rfl ?_
      refine m_bipushN 24 dX2_layerBits_21 (by decide) ?_
      first | refine m_icmp_geN 60 dX2_layerBits_23 (by decide) (by omega) (by omega) (fun c23 => ?_) (fun c23 => ?_) | refine m_icmp_ge 60 dX2_layerBits_23 (by decide) (fun c23 => ?_) (fun c23 => ?_)
      · refine m_iload_n dX2_layerBits_60 rfl ?_
        refine m_iconst (v := -1) dX2_layerBits_61 (by decide) ?_
        refine m_icmp_ne 69 dX2_layerBits_62 (by decide) (fun c62 => ?_) (fun c62 => by exfalso; exact c62 hneg)
        refine m_iconst (v := -1) dX2_layerBits_69 (by decide) ?_
        exact m_iret (ty := .int) hR dX2_layerBits_70 (⟨by rw [g4, show 24 - t = 0 by omega]; rfl, g3⟩)
      · refine m_aload_n dX2_layerBits_26 rfl ?_
        refine m_aload_n dX2_layerBits_27 rfl ?_
        refine m_get fl_X2_12 (by decide) rfl rfl dX2_layerBits_28 ?_
        refine m_callVIp (s_X2_frontBits hl1 (j := 5) (by decide) g2) cv_X2_83 dX2_layerBits_31 ?_
        refine m_istore dX2_layerBits_34 (Nat.le_of_ble_eq_true rfl) rfl ?_
        refine m_iload_n dX2_layerBits_36 rfl ?_
        refine m_iload_n dX2_layerBits_37 rfl ?_
        first | refine m_icmp_neN 44 dX2_layerBits_38 (by decide) (by omega) (by omega) (fun c38 => ?_) (fun c38 => ?_) | refine m_icmp_ne 44 dX2_layerBits_38 (by decide) (fun c38 => ?_) (fun c38 => ?_)
        · refine m_aload_n dX2_layerBits_44 rfl ?_
          refine m_aload_n dX2_layerBits_45 rfl ?_
          refine m_get fl_X2_12 (by decide) rfl rfl dX2_layerBits_46 ?_
          refine m_iload dX2_layerBits_49 rfl ?_
          refine m_callVV (s_X2_takeOffAll hl1 (j := 5) (by decide) g2 (s := fbits (bw k fb) ys k) (fbits_lt _ _ _ hk)) cv_X2_86 dX2_layerBits_51 (fun d51 h51 => ?_)
          first | refine m_iincN 1 dX2_layerBits_54 (by decide) rfl rfl ?_ | refine m_iinc dX2_layerBits_54 rfl rfl ?_
          refine m_goto 10 dX2_layerBits_57 (by decide) ?_
          have hyn : ys ≠ [] := fun e => by subst e; simp at c17
          refine ih (by omega) _ _ _ (by omega) h51.1 (g3.tr h51.2) ?_
          rw [g4, show 24 - t = (24 - (t + 1)) + 1 by omega, layF_s hyn, show n - t = (n - (t + 1)) + 1 by omega]
          rfl
        · refine m_iload dX2_layerBits_41 rfl ?_
          have hyn : ys ≠ [] := fun e => by subst e; simp at c17
          exact m_iret (ty := .int) hR dX2_layerBits_43 (⟨by rw [g4, show 24 - t = (23 - t) + 1 by omega, layF_s hyn, show n - t = 0 by omega]; rfl, g3⟩)
    )
  refine m_aload_n dX2_layerBits_0 rfl ?_
  refine m_get fl_X2_12 (by decide) rfl rfl dX2_layerBits_1 ?_
  refine m_aload_n dX2_layerBits_4 rfl ?_
  refine m_callVV (s_X9_become (k := 5) (j := j) hj (by decide) (Ne.symm hj5) hr) cv_X2_49 dX2_layerBits_5 (fun d5 h5 => ?_)
  refine m_iconstN 0 dX2_layerBits_8 (by decide) ?_
  refine m_istore_n dX2_layerBits_9 (Nat.le_of_ble_eq_true rfl) rfl ?_
  exact loop 0 (Nat.zero_le _) xs d5 none (Nat.zero_le _) h5.1 h5.2 rfl
theorem s_X2_layerBitsM (h : letIs d k fb) (hj : j < 13) (hj5 : j ≠ 5) (hr : rowIs d j xs) : mSpecI l W mX2_layerBits (dep + 4) [.ref (xad W 50), .ref (xad W (j + 4)), .int (-1)] d (fun r d' => r = nI (layF (bw k fb) k 24 xs).length ∧ chg [9, 22] d d') := by
  have hk := h.2.2.2.1
  have hneg : ∀ n, n < 2 ^ 31 → ¬ nI n = -1 := fun n hn z => by have := nI_pos hn; rw [z] at this; exact this (by decide)
  refine m_spec RX2 [some (.ref (xad W 50)), some (.ref (xad W (j + 4))), some (.int (-1)), none, none] rfl (by decide +kernel) rfl rfl (fun K hR => ?_)
  have loop : ∀ t, t ≤ 24 → ∀ (ys : List Nat) (d1 : xD) (o4 : Option Value), rowIs d1 5 ys → chg [9, 22] d d1 → (layF (bw k fb) k 24 xs).length = t + (layF (bw k fb) k (24 - t) ys).length → mG W K cX2_layerBits RX2 (dep + 4) d1 10 [some (.ref (xad W 50)), some (.ref (xad W (j + 4))), some (.int (-1)), some (.int (nI t)), o4] [] := x_up _ (fun t ht ih ys d1 o4 g2 g3 g4 => by
    have hl1 : letIs d1 k fb := h.fr g3 (by simp) (by simp)
    have hy24 := g2.1
    refine m_aload_n dX2_layerBits_10 rfl ?_
    refine m_get fl_X2_12 (by decide) rfl rfl dX2_layerBits_11 ?_
    refine m_callVIp (s_X9_length (j := 5) (by decide) g2) cv_X2_34 dX2_layerBits_14 ?_
    first | refine m_if_leN 60 dX2_layerBits_17 (by decide) (by omega) (fun c17 => ?_) (fun c17 => ?_) | refine m_if_le 60 dX2_layerBits_17 (by decide) (fun c17 => ?_) (fun c17 => ?_)
    · refine m_iload_n dX2_layerBits_60 rfl ?_
      refine m_iconst (v := -1) dX2_layerBits_61 (by decide) ?_
      refine m_icmp_ne 69 dX2_layerBits_62 (by decide) (fun c62 => by exfalso; exact c62 rfl) (fun c62 => ?_)
      refine m_iload_n dX2_layerBits_65 rfl ?_
      refine m_goto 70 dX2_layerBits_66 (by decide) ?_
      exact m_iret (ty := .int) hR dX2_layerBits_70 (⟨by rw [g4, List.eq_nil_of_length_eq_zero c17, layF_0]; rfl, g3⟩)
    · refine m_iload_n dX2_layerBits_20 rfl ?_
      refine m_bipushN 24 dX2_layerBits_21 (by decide) ?_
      first | refine m_icmp_geN 60 dX2_layerBits_23 (by decide) (by omega) (by omega) (fun c23 => ?_) (fun c23 => ?_) | refine m_icmp_ge 60 dX2_layerBits_23 (by decide) (fun c23 => ?_) (fun c23 => ?_)
      · refine m_iload_n dX2_layerBits_60 rfl ?_
        refine m_iconst (v := -1) dX2_layerBits_61 (by decide) ?_
        refine m_icmp_ne 69 dX2_layerBits_62 (by decide) (fun c62 => by exfalso; exact c62 rfl) (fun c62 => ?_)
        refine m_iload_n dX2_layerBits_65 rfl ?_
        refine m_goto 70 dX2_layerBits_66 (by decide) ?_
        exact m_iret (ty := .int) hR dX2_layerBits_70 (⟨by rw [g4, show 24 - t = 0 by omega]; rfl, g3⟩)
      · refine m_aload_n dX2_layerBits_26 rfl ?_
        refine m_aload_n dX2_layerBits_27 rfl ?_
        refine m_get fl_X2_12 (by decide) rfl rfl dX2_layerBits_28 ?_
        refine m_callVIp (s_X2_frontBits hl1 (j := 5) (by decide) g2) cv_X2_83 dX2_layerBits_31 ?_
        refine m_istore dX2_layerBits_34 (Nat.le_of_ble_eq_true rfl) rfl ?_
        refine m_iload_n dX2_layerBits_36 rfl ?_
        refine m_iload_n dX2_layerBits_37 rfl ?_
        refine m_icmp_ne 44 dX2_layerBits_38 (by decide) (fun c38 => ?_) (fun c38 => by exfalso; exact c38 (hneg t (by omega)))
        refine m_aload_n dX2_layerBits_44 rfl ?_
        refine m_aload_n dX2_layerBits_45 rfl ?_
        refine m_get fl_X2_12 (by decide) rfl rfl dX2_layerBits_46 ?_
        refine m_iload dX2_layerBits_49 rfl ?_
        refine m_callVV (s_X2_takeOffAll hl1 (j := 5) (by decide) g2 (s := fbits (bw k fb) ys k) (fbits_lt _ _ _ hk)) cv_X2_86 dX2_layerBits_51 (fun d51 h51 => ?_)
        first | refine m_iincN 1 dX2_layerBits_54 (by decide) rfl rfl ?_ | refine m_iinc dX2_layerBits_54 rfl rfl ?_
        refine m_goto 10 dX2_layerBits_57 (by decide) ?_
        have hyn : ys ≠ [] := fun e => by subst e; simp at c17
        refine ih (by omega) _ _ _ h51.1 (g3.tr h51.2) ?_
        rw [g4, show 24 - t = (24 - (t + 1)) + 1 by omega, layF_s hyn, List.length_cons]
        omega
    )
  refine m_aload_n dX2_layerBits_0 rfl ?_
  refine m_get fl_X2_12 (by decide) rfl rfl dX2_layerBits_1 ?_
  refine m_aload_n dX2_layerBits_4 rfl ?_
  refine m_callVV (s_X9_become (k := 5) (j := j) hj (by decide) (Ne.symm hj5) hr) cv_X2_49 dX2_layerBits_5 (fun d5 h5 => ?_)
  refine m_iconstN 0 dX2_layerBits_8 (by decide) ?_
  refine m_istore_n dX2_layerBits_9 (Nat.le_of_ble_eq_true rfl) rfl ?_
  exact loop 0 (Nat.zero_le _) xs d5 none h5.1 h5.2 (by simp)
/-- what must come behind place i, by the letters that are held back -/
def hbF (B : Nat → Nat) (xs : List Nat) (i : Nat) : Nat → Nat
  | 0 => B (xs.getD i 0)
  | t + 1 => if (hbF B xs i t).testBit (xs.getD (i + 1 + t) 0) then hbF B xs i t ||| B (xs.getD (i + 1 + t) 0) else hbF B xs i t
def must (B : Nat → Nat) (xs : List Nat) (i j : Nat) : Bool := decide (i < j) && (hbF B xs i (j - i - 1)).testBit (xs.getD j 0)
theorem getD_at {xs : List Nat} {n : Nat} (h : n < xs.length) : xs.getD n 0 = xs[n] := by
  rw [List.getD_eq_getElem?_getD, List.getElem?_eq_getElem h]; rfl
theorem s_X9_atD (hj : j < 13) (h : rowIs d j xs) {n : Nat} (hn : n < xs.length) : mSpecI l W mX9_at dep [.ref (xad W (j + 4)), .int (nI n)] d (fun r d' => r = nI (xs.getD n 0) ∧ d' = d) :=
  (s_X9_atI hj h hn).mono (fun r d' q => ⟨by rw [q.1, getD_at hn], q.2⟩)
theorem hbF_lt {B : Nat → Nat} {xs : List Nat} (hB : ∀ x ∈ xs, B x < 64) {i : Nat} : ∀ t, i + t < xs.length → hbF B xs i t < 64 := by
  intro t
  induction t with
  | zero => intro h; show B (xs.getD i 0) < 64; rw [getD_at (by omega)]; exact hB _ (List.getElem_mem _)
  | succ t ih =>
    intro h
    have h1 := ih (by omega)
    show (if _ then _ else _) < 64
    split
    · exact Nat.or_lt_two_pow (n := 6) h1 (by rw [getD_at (by omega)]; exact hB _ (List.getElem_mem _))
    · exact h1
theorem s_X2_mustComeAhead (h : letIs d k fb) (hj : j < 13) (hr : rowIs d j xs) (hx : ∀ x ∈ xs, x < k) {a b : Nat} (ha : a < xs.length) (hb : b < xs.length) : mSpecI l W mX2_mustComeAhead (dep + 1) [.ref (xad W 50), .ref (xad W (j + 4)), .int (nI a), .int (nI b)] d (fun r d' => r = (if must (bw k fb) xs a b then 1 else 0) ∧ d' = d) := by
  have hk := h.2.2.2.1
  have h24 := hr.1
  have hB : ∀ x ∈ xs, bw k fb x < 64 := fun x hx1 => bw_lt64 h.2.2 (by have := hx x hx1; omega)
  have h6 : ∀ n, n < xs.length → xs.getD n 0 < 6 := fun n hn => by rw [getD_at hn]; exact hr.lt hn
  refine m_spec RX2 [some (.ref (xad W 50)), some (.ref (xad W (j + 4))), some (.int (nI a)), some (.int (nI b)), none, none] rfl (by decide +kernel) rfl rfl (fun K hR => ?_)
  have loop : a < b → ∀ m, m ≤ b → ∀ t, m = a + 1 + t → mG W K cX2_mustComeAhead RX2 (dep + 1) d 26 [some (.ref (xad W 50)), some (.ref (xad W (j + 4))), some (.int (nI a)), some (.int (nI b)), some (.int (nI (hbF (bw k fb) xs a t))), some (.int (nI m))] [] := fun hab => x_up _ (fun m hm ih t ht => by
    have h64 := hbF_lt hB (i := a) t (by omega)
    have h6b := h6 b hb
    refine m_iload dX2_mustComeAhead_26 rfl ?_
    refine m_iload_n dX2_mustComeAhead_28 rfl ?_
    first | refine m_icmp_geN 71 dX2_mustComeAhead_29 (by decide) (by omega) (by omega) (fun c29 => ?_) (fun c29 => ?_) | refine m_icmp_ge 71 dX2_mustComeAhead_29 (by decide) (fun c29 => ?_) (fun c29 => ?_)
    · refine m_iload dX2_mustComeAhead_71 rfl ?_
      refine m_aload_n dX2_mustComeAhead_73 rfl ?_
      refine m_iload_n dX2_mustComeAhead_74 rfl ?_
      refine m_callVIp (s_X9_atD hj hr (n := b) (by omega)) cv_X2_38 dX2_mustComeAhead_75 ?_
      refine m_ishr dX2_mustComeAhead_78 ?_
      refine m_iconstN 1 dX2_mustComeAhead_79 (by decide) ?_
      refine m_iand dX2_mustComeAhead_80 ?_
      refine m_eqi (nI_bit (by omega) (by omega)) ?_
      refine m_iconstN 1 dX2_mustComeAhead_81 (by decide) ?_
      have hb2 : ((hbF (bw k fb) xs a t).testBit (xs.getD b 0)).toNat < 2 := Bool.toNat_lt _
      first | refine m_icmp_neN 89 dX2_mustComeAhead_82 (by decide) (by omega) (by omega) (fun c82 => ?_) (fun c82 => ?_) | refine m_icmp_ne 89 dX2_mustComeAhead_82 (by decide) (fun c82 => ?_) (fun c82 => ?_)
      · refine m_iconstN 0 dX2_mustComeAhead_89 (by decide) ?_
        exact m_iret (ty := .boolean) hR dX2_mustComeAhead_90 (⟨by unfold must; rw [show b - a - 1 = t by omega]; cases hf : (hbF (bw k fb) xs a t).testBit (xs.getD b 0) <;> simp_all <;> rfl, rfl⟩)
      · refine m_iconstN 1 dX2_mustComeAhead_85 (by decide) ?_
        refine m_goto 90 dX2_mustComeAhead_86 (by decide) ?_
        exact m_iret (ty := .boolean) hR dX2_mustComeAhead_90 (⟨by unfold must; rw [show b - a - 1 = t by omega]; cases hf : (hbF (bw k fb) xs a t).testBit (xs.getD b 0) <;> simp_all <;> rfl, rfl⟩)
    · refine m_iload dX2_mustComeAhead_32 rfl ?_
      refine m_aload_n dX2_mustComeAhead_34 rfl ?_
      refine m_iload dX2_mustComeAhead_35 rfl ?_
      refine m_callVIp (s_X9_atD hj hr (n := m) (by omega)) cv_X2_38 dX2_mustComeAhead_37 ?_
      have h6m := h6 m (by omega)
      refine m_ishr dX2_mustComeAhead_40 ?_
      refine m_iconstN 1 dX2_mustComeAhead_41 (by decide) ?_
      refine m_iand dX2_mustComeAhead_42 ?_
      refine m_eqi (nI_bit (by omega) (by omega)) ?_
      refine m_iconstN 1 dX2_mustComeAhead_43 (by decide) ?_
      have hb2 : ((hbF (bw k fb) xs a t).testBit (xs.getD m 0)).toNat < 2 := Bool.toNat_lt _
      first | refine m_icmp_neN 65 dX2_mustComeAhead_44 (by decide) (by omega) (by omega) (fun c44 => ?_) (fun c44 => ?_) | refine m_icmp_ne 65 dX2_mustComeAhead_44 (by decide) (fun c44 => ?_) (fun c44 => ?_)
      · first | refine m_iincN 1 dX2_mustComeAhead_65 (by decide) rfl rfl ?_ | refine m_iinc dX2_mustComeAhead_65 rfl rfl ?_
        refine m_goto 26 dX2_mustComeAhead_68 (by decide) ?_
        have e := ih (by omega) (t + 1) (by omega)
        rw [show hbF (bw k fb) xs a (t + 1) = (if (hbF (bw k fb) xs a t).testBit (xs.getD (a + 1 + t) 0) then hbF (bw k fb) xs a t ||| bw k fb (xs.getD (a + 1 + t) 0) else hbF (bw k fb) xs a t) from rfl, ← ht, if_neg (by cases hf : (hbF (bw k fb) xs a t).testBit (xs.getD m 0) <;> simp_all)] at e
        exact e
      · refine m_iload dX2_mustComeAhead_47 rfl ?_
        refine m_aload_n dX2_mustComeAhead_49 rfl ?_
        refine m_get fl_X2_24 (by decide) rfl rfl dX2_mustComeAhead_50 ?_
        refine m_aload_n dX2_mustComeAhead_53 rfl ?_
        refine m_iload dX2_mustComeAhead_54 rfl ?_
        refine m_callVIp (s_X9_atD hj hr (n := m) (by omega)) cv_X2_38 dX2_mustComeAhead_56 ?_
        refine m_callVIp (s_X3_boundWith h (p := xs.getD m 0) (by omega)) cv_X2_28 dX2_mustComeAhead_59 ?_
        refine m_ior dX2_mustComeAhead_62 ?_
        refine m_eqi (nI_or _ _) ?_
        refine m_istore dX2_mustComeAhead_63 (Nat.le_of_ble_eq_true rfl) rfl ?_
        first | refine m_iincN 1 dX2_mustComeAhead_65 (by decide) rfl rfl ?_ | refine m_iinc dX2_mustComeAhead_65 rfl rfl ?_
        refine m_goto 26 dX2_mustComeAhead_68 (by decide) ?_
        have e := ih (by omega) (t + 1) (by omega)
        rw [show hbF (bw k fb) xs a (t + 1) = (if (hbF (bw k fb) xs a t).testBit (xs.getD (a + 1 + t) 0) then hbF (bw k fb) xs a t ||| bw k fb (xs.getD (a + 1 + t) 0) else hbF (bw k fb) xs a t) from rfl, ← ht, if_pos (by cases hf : (hbF (bw k fb) xs a t).testBit (xs.getD m 0) <;> simp_all)] at e
        exact e
    )
  refine m_iload_n dX2_mustComeAhead_0 rfl ?_
  refine m_iload_n dX2_mustComeAhead_1 rfl ?_
  first | refine m_icmp_ltN 7 dX2_mustComeAhead_2 (by decide) (by omega) (by omega) (fun c2 => ?_) (fun c2 => ?_) | refine m_icmp_lt 7 dX2_mustComeAhead_2 (by decide) (fun c2 => ?_) (fun c2 => ?_)
  · refine m_aload_n dX2_mustComeAhead_7 rfl ?_
    refine m_get fl_X2_24 (by decide) rfl rfl dX2_mustComeAhead_8 ?_
    refine m_aload_n dX2_mustComeAhead_11 rfl ?_
    have h6a := h6 a ha
    refine m_iload_n dX2_mustComeAhead_12 rfl ?_
    refine m_callVIp (s_X9_atD hj hr (n := a) ha) cv_X2_38 dX2_mustComeAhead_13 ?_
    refine m_callVIp (s_X3_boundWith h (p := xs.getD a 0) (by omega)) cv_X2_28 dX2_mustComeAhead_16 ?_
    refine m_istore dX2_mustComeAhead_19 (Nat.le_of_ble_eq_true rfl) rfl ?_
    refine m_iload_n dX2_mustComeAhead_21 rfl ?_
    refine m_iconstN 1 dX2_mustComeAhead_22 (by decide) ?_
    first | refine m_iaddN dX2_mustComeAhead_23 ?_ | refine m_iadd dX2_mustComeAhead_23 ?_
    refine m_istore dX2_mustComeAhead_24 (Nat.le_of_ble_eq_true rfl) rfl ?_
    exact loop (by omega) (a + 1) (by omega) 0 rfl
  · refine m_iconstN 0 dX2_mustComeAhead_5 (by decide) ?_
    exact m_iret (ty := .boolean) hR dX2_mustComeAhead_6 (⟨by unfold must; simp [c2]; rfl, rfl⟩)
end HEB
