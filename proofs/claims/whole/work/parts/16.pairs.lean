/-! class Pairs -/
/-- the letters of zs taken off the front of ys -/
def tkL (B : Nat → Nat) : List Nat → List Nat → Option (List Nat)
  | ys, [] => some ys
  | ys, x :: t => match front B ys x with
    | none => none
    | some i => tkL B (ys.eraseIdx i) t
theorem tkL_app (B : Nat → Nat) : ∀ (zs ys ws : List Nat), tkL B ys (zs ++ ws) = (tkL B ys zs).bind (fun u => tkL B u ws)
  | [], ys, ws => rfl
  | x :: t, ys, ws => by
    show (match front B ys x with | none => none | some i => tkL B (ys.eraseIdx i) (t ++ ws)) = _
    cases hf : front B ys x with
    | none => simp [tkL, hf]
    | some i => simp only [tkL, hf]; exact tkL_app B t _ ws
theorem tkL_mem {B : Nat → Nat} : ∀ (zs ys us : List Nat), tkL B ys zs = some us → ∀ u ∈ us, u ∈ ys
  | [], ys, us, h, u, hu => by cases h; exact hu
  | x :: t, ys, us, h, u, hu => by
    unfold tkL at h
    cases hf : front B ys x with
    | none => rw [hf] at h; cases h
    | some i =>
      rw [hf] at h
      exact List.mem_of_mem_eraseIdx (tkL_mem t _ us h u hu)
def cfront (B : Nat → Nat) (k : Nat) (xs ys : List Nat) : Option Nat := (List.range k).find? (fun p => (front B xs p).isSome && (front B ys p).isSome)
def splitF (B : Nat → Nat) (k : Nat) : Nat → List Nat → List Nat → List Nat → List Nat × List Nat × List Nat
  | 0, cs, xs, ys => (cs, xs, ys)
  | n + 1, cs, xs, ys => match cfront B k xs ys with
    | none => (cs, xs, ys)
    | some p => splitF B k n (cs ++ [p]) (tk B xs p) (tk B ys p)
def allFr (k : Nat) (fb : Nat → Nat) (xs ys : List Nat) : Bool := xs.all (fun x => decide (bw k fb x &&& bitsOf ys = 0))
theorem tk_mem {B : Nat → Nat} {xs : List Nat} {p y : Nat} (h : y ∈ tk B xs p) : y ∈ xs := by
  unfold tk at h
  split at h
  · exact List.mem_of_mem_eraseIdx h
  · exact h
section PAI
variable {l : Launch} {W : xW} {dep : Nat} {d : xD} {k : Nat} {fb : Nat → Nat} {j j2 jc : Nat} {xs ys : List Nat}
theorem s_X7_makeHeap (h : letIs d k fb) (hj : j < 13) (hjc : jc < 13) (hj5 : j ≠ 5) (hc5 : jc ≠ 5) (hr : rowIs d j xs) (hx : ∀ x ∈ xs, x < k) : mSpecI l W mX7_makeHeap (dep + 3) [.ref (xad W 51), .ref (xad W (j + 4)), .ref (xad W (jc + 4))] d (fun r d' => r = nI xs.length ∧ rowIs d' jc (leastR (bw k fb) xs) ∧ chg [9, 22, jc + 4, jc + 17] d d') := by
  have hlen := leastR_len (bw_ok h.2.2 hx)
  refine m_spec RX7 [some (.ref (xad W 51)), some (.ref (xad W (j + 4))), some (.ref (xad W (jc + 4)))] rfl (by decide +kernel) rfl rfl (fun K hR => ?_)
  refine m_aload_n dX7_makeHeap_0 rfl ?_
  refine m_get fl_X7_24 (by decide) rfl rfl dX7_makeHeap_1 ?_
  refine m_aload_n dX7_makeHeap_4 rfl ?_
  refine m_aload_n dX7_makeHeap_5 rfl ?_
  refine m_callVV (s_X2_makeLeast h hj hjc hj5 hc5 hr hx) cv_X7_62 dX7_makeHeap_6 (fun d6 h6 => ?_)
  refine m_aload_n dX7_makeHeap_9 rfl ?_
  refine m_callVIp (s_X9_length hjc h6.1) cv_X7_40 dX7_makeHeap_10 ?_
  exact m_iret (ty := .int) hR dX7_makeHeap_13 (⟨by rw [hlen], h6.1, h6.2⟩)
theorem s_X7_makeJoined (h : letIs d k fb) (hj : j < 13) (hj2 : j2 < 13) (hjc : jc < 13) (hj8 : j ≠ 8) (hj28 : j2 ≠ 8) (hc5 : jc ≠ 5) (hr : rowIs d j xs) (hr2 : rowIs d j2 ys) (hx : ∀ x ∈ xs, x < k) (hy : ∀ y ∈ ys, y < k) : mSpecI l W mX7_makeJoined (dep + 4) [.ref (xad W 51), .ref (xad W (j + 4)), .ref (xad W (j2 + 4)), .ref (xad W (jc + 4))] d (fun r d' => (xs.length + ys.length ≤ 24 ∧ r = nI (xs.length + ys.length) ∧ rowIs d' jc (leastR (bw k fb) (xs ++ ys)) ∧ chg [9, 22, 12, 25, jc + 4, jc + 17] d d') ∨ (¬ xs.length + ys.length ≤ 24 ∧ r = -5 ∧ chg [12, 25] d d')) := by
  refine m_spec RX7 [some (.ref (xad W 51)), some (.ref (xad W (j + 4))), some (.ref (xad W (j2 + 4))), some (.ref (xad W (jc + 4)))] rfl (by decide +kernel) rfl rfl (fun K hR => ?_)
  by_cases h24 : xs.length + ys.length ≤ 24
  · skip
    refine m_aload_n dX7_makeJoined_0 rfl ?_
    refine m_get fl_X7_12 (by decide) rfl rfl dX7_makeJoined_1 ?_
    refine m_aload_n dX7_makeJoined_4 rfl ?_
    refine m_callVV (s_X9_become (k := 8) (j := j) hj (by decide) (Ne.symm hj8) hr) cv_X7_28 dX7_makeJoined_5 (fun d5 h5 => ?_)
    refine m_aload_n dX7_makeJoined_8 rfl ?_
    refine m_get fl_X7_12 (by decide) rfl rfl dX7_makeJoined_9 ?_
    refine m_aload_n dX7_makeJoined_12 rfl ?_
    refine m_callVI (s_X9_append (k := 8) (j := j2) hj2 (by decide) (Ne.symm hj28) (hr2.fr h5.2 (by simp; omega) (by simp; omega)) h5.1 h24) cv_X7_32 dX7_makeJoined_13 (fun r13 d13 h13 => ?_)
    obtain ⟨rfl, h13⟩ := h13
    refine m_if_eq 31 dX7_makeJoined_16 (by decide) (fun c16 => by exfalso; exact absurd c16 (by decide)) (fun c16 => ?_)
    refine m_aload_n dX7_makeJoined_19 rfl ?_
    refine m_aload_n dX7_makeJoined_20 rfl ?_
    refine m_get fl_X7_12 (by decide) rfl rfl dX7_makeJoined_21 ?_
    refine m_aload_n dX7_makeJoined_24 rfl ?_
    refine m_callVI (s_X7_makeHeap (j := 8) ((h.fr h5.2 (by simp) (by simp)).fr h13.2 (by simp) (by simp)) (by decide) hjc (by decide) hc5 h13.1 (fun x hx1 => (List.mem_append.mp hx1).elim (hx x) (hy x))) cv_X7_36 dX7_makeJoined_25 (fun r25 d25 h25 => ?_)
    refine m_goto 33 dX7_makeJoined_28 (by decide) ?_
    exact m_iret (ty := .int) hR dX7_makeJoined_33 (Or.inl ⟨h24, by rw [h25.1, List.length_append], h25.2.1, ((h5.2.mono (by simp)).tr (h13.2.mono (by simp))).tr (h25.2.2.mono (by simp))⟩)
  · skip
    refine m_aload_n dX7_makeJoined_0 rfl ?_
    refine m_get fl_X7_12 (by decide) rfl rfl dX7_makeJoined_1 ?_
    refine m_aload_n dX7_makeJoined_4 rfl ?_
    refine m_callVV (s_X9_become (k := 8) (j := j) hj (by decide) (Ne.symm hj8) hr) cv_X7_28 dX7_makeJoined_5 (fun d5 h5 => ?_)
    refine m_aload_n dX7_makeJoined_8 rfl ?_
    refine m_get fl_X7_12 (by decide) rfl rfl dX7_makeJoined_9 ?_
    refine m_aload_n dX7_makeJoined_12 rfl ?_
    refine m_callVI (s_X9_appendF (k := 8) (j := j2) hj2 (by decide) (hr2.fr h5.2 (by simp; omega) (by simp; omega)) h5.1 h24) cv_X7_32 dX7_makeJoined_13 (fun r13 d13 h13 => ?_)
    obtain ⟨rfl, rfl⟩ := h13
    refine m_if_eq 31 dX7_makeJoined_16 (by decide) (fun c16 => ?_) (fun c16 => by exfalso; exact c16 rfl)
    refine m_bipush (v := -5) dX7_makeJoined_31 (by decide) ?_
    exact m_iret (ty := .int) hR dX7_makeJoined_33 (Or.inr ⟨h24, rfl, h5.2⟩)
theorem s_X7_makeLeft (h : letIs d k fb) (hj : j < 13) (hj2 : j2 < 13) (hjc : jc < 13) (hj10 : j ≠ 10) (hj210 : j2 ≠ 10) (hc5 : jc ≠ 5) (hr : rowIs d j xs) (hr2 : rowIs d j2 ys) (hx : ∀ x ∈ xs, x < k) (hy : ∀ y ∈ ys, y < k) : mSpecI l W mX7_makeLeft (dep + 4) [.ref (xad W 51), .ref (xad W (j + 4)), .ref (xad W (j2 + 4)), .ref (xad W (jc + 4))] d (fun r d' => (∃ zs, tkL (bw k fb) ys xs = some zs ∧ r = nI zs.length ∧ rowIs d' jc (leastR (bw k fb) zs) ∧ chg [9, 22, 14, 27, jc + 4, jc + 17] d d') ∨ (tkL (bw k fb) ys xs = none ∧ r = -4 ∧ chg [14, 27] d d')) := by
  have h24 := hr.1
  have hk := h.2.2.2.1
  refine m_spec RX7 [some (.ref (xad W 51)), some (.ref (xad W (j + 4))), some (.ref (xad W (j2 + 4))), some (.ref (xad W (jc + 4))), none] rfl (by decide +kernel) rfl rfl (fun K hR => ?_)
  have loop : ∀ i, i ≤ xs.length → ∀ (us : List Nat) (d1 : xD), rowIs d1 10 us → chg [14, 27] d d1 → tkL (bw k fb) ys (xs.take i) = some us → mG W K cX7_makeLeft RX7 (dep + 4) d1 11 [some (.ref (xad W 51)), some (.ref (xad W (j + 4))), some (.ref (xad W (j2 + 4))), some (.ref (xad W (jc + 4))), some (.int (nI i))] [] := x_up _ (fun i hi ih us d1 g1 g2 g3 => by
    have hl1 : letIs d1 k fb := h.fr g2 (by simp) (by simp)
    have hr1 : rowIs d1 j xs := hr.fr g2 (by simp; omega) (by simp; omega)
    have hstep : i < xs.length → tkL (bw k fb) ys xs = (match front (bw k fb) us (xs.getD i 0) with | none => none | some q => tkL (bw k fb) (us.eraseIdx q) (xs.drop (i + 1))) ∧ tkL (bw k fb) ys (xs.take (i + 1)) = (match front (bw k fb) us (xs.getD i 0) with | none => none | some q => some (us.eraseIdx q)) := fun hil => by
      constructor
      · have e : xs = xs.take i ++ (xs[i] :: xs.drop (i + 1)) := by rw [← drop_c hil, List.take_append_drop]
        conv => lhs; rw [e]
        rw [tkL_app, g3, getD_at hil]
        rfl
      · rw [take_s hil, tkL_app, g3, getD_at hil]
        show tkL _ us [xs[i]] = _
        unfold tkL
        cases front (bw k fb) us xs[i] <;> rfl
    refine m_iload dX7_makeLeft_11 rfl ?_
    refine m_aload_n dX7_makeLeft_13 rfl ?_
    refine m_callVIp (s_X9_length hj hr1) cv_X7_40 dX7_makeLeft_14 ?_
    first | refine m_icmp_geN 49 dX7_makeLeft_17 (by decide) (by omega) (by omega) (fun c17 => ?_) (fun c17 => ?_) | refine m_icmp_ge 49 dX7_makeLeft_17 (by decide) (fun c17 => ?_) (fun c17 => ?_)
    · refine m_aload_n dX7_makeLeft_49 rfl ?_
      refine m_aload_n dX7_makeLeft_50 rfl ?_
      refine m_get fl_X7_21 (by decide) rfl rfl dX7_makeLeft_51 ?_
      refine m_aload_n dX7_makeLeft_54 rfl ?_
      rw [List.take_of_length_le (by omega)] at g3
      refine m_callVI (s_X7_makeHeap (j := 10) hl1 (by decide) hjc (by decide) hc5 g1 (fun x hx1 => hy x (tkL_mem _ _ _ g3 x hx1))) cv_X7_36 dX7_makeLeft_55 (fun r55 d55 h55 => ?_)
      exact m_iret (ty := .int) hR dX7_makeLeft_58 (Or.inl ⟨us, g3, h55.1, h55.2.1, (g2.mono (by simp)).tr (h55.2.2.mono (by simp))⟩)
    · refine m_aload_n dX7_makeLeft_20 rfl ?_
      refine m_get fl_X7_24 (by decide) rfl rfl dX7_makeLeft_21 ?_
      refine m_aload_n dX7_makeLeft_24 rfl ?_
      refine m_get fl_X7_21 (by decide) rfl rfl dX7_makeLeft_25 ?_
      refine m_aload_n dX7_makeLeft_28 rfl ?_
      refine m_iload dX7_makeLeft_29 rfl ?_
      refine m_callVIp (s_X9_atD hj hr1 (n := i) (by omega)) cv_X7_44 dX7_makeLeft_31 ?_
      have hb := hr.lt (i := i) (by omega)
      rw [← getD_at] at hb
      refine m_callVI (s_X2_takeOff hl1 (j := 10) (by decide) g1 (p := xs.getD i 0) hb) cv_X7_48 dX7_makeLeft_34 (fun r34 d34 h34 => ?_)
      refine m_if_ne 43 dX7_makeLeft_37 (by decide) (fun c37 => ?_) (fun c37 => ?_)
      · first | refine m_iincN 1 dX7_makeLeft_43 (by decide) rfl rfl ?_ | refine m_iinc dX7_makeLeft_43 rfl rfl ?_
        refine m_goto 11 dX7_makeLeft_46 (by decide) ?_
        rcases h34 with ⟨a1, a2, rfl⟩ | ⟨q, a1, a2, a3, a4⟩
        · exact absurd a2 c37
        · refine ih (by omega) _ _ a3 (g2.tr a4) ?_
          rw [(hstep (by omega)).2, a1]
      · refine m_bipush (v := -4) dX7_makeLeft_40 (by decide) ?_
        have hd34 : front (bw k fb) us (xs.getD i 0) = none ∧ d34 = d1 := by
          rcases h34 with ⟨a1, a2, a3⟩ | ⟨q, a1, a2, a3, a4⟩
          · exact ⟨a1, a3⟩
          · rw [a2] at c37; exact absurd (Decidable.not_not.mp c37) (by decide)
        obtain ⟨a1, rfl⟩ := hd34
        exact m_iret (ty := .int) hR dX7_makeLeft_42 (Or.inr ⟨by rw [(hstep (by omega)).1, a1], rfl, g2⟩)
    )
  refine m_aload_n dX7_makeLeft_0 rfl ?_
  refine m_get fl_X7_21 (by decide) rfl rfl dX7_makeLeft_1 ?_
  refine m_aload_n dX7_makeLeft_4 rfl ?_
  refine m_callVV (s_X9_become (k := 10) (j := j2) hj2 (by decide) (Ne.symm hj210) hr2) cv_X7_28 dX7_makeLeft_5 (fun d5 h5 => ?_)
  refine m_iconstN 0 dX7_makeLeft_8 (by decide) ?_
  refine m_istore dX7_makeLeft_9 (Nat.le_of_ble_eq_true rfl) rfl ?_
  exact loop 0 (Nat.zero_le _) ys _ h5.1 h5.2 rfl
theorem s_X7_commonFront (h : letIs d k fb) (hr : rowIs d 9 xs) (hr2 : rowIs d 10 ys) : mSpecI l W mX7_commonFront (dep + 3) [.ref (xad W 51)] d (fun r d' => r = optI (cfront (bw k fb) k xs ys) ∧ d' = d) := by
  have hk := h.2.2.2.1
  refine m_spec RX7 [some (.ref (xad W 51)), none] rfl (by decide +kernel) rfl rfl (fun K hR => ?_)
  have loop : ∀ p, p ≤ k → (∀ q, q < p → ((front (bw k fb) xs q).isSome && (front (bw k fb) ys q).isSome) = false) → mG W K cX7_commonFront RX7 (dep + 3) d 2 [some (.ref (xad W 51)), some (.int (nI p))] [] := x_up _ (fun p hp ih g => by
    refine m_iload_n dX7_commonFront_2 rfl ?_
    refine m_aload_n dX7_commonFront_3 rfl ?_
    refine m_get fl_X7_24 (by decide) rfl rfl dX7_commonFront_4 ?_
    refine m_callVRp (s_X2_letters) cv_X7_75 dX7_commonFront_7 ?_
    refine m_callVIp (s_X3_size h) cv_X7_79 dX7_commonFront_10 ?_
    first | refine m_icmp_geN 54 dX7_commonFront_13 (by decide) (by omega) (by omega) (fun c13 => ?_) (fun c13 => ?_) | refine m_icmp_ge 54 dX7_commonFront_13 (by decide) (fun c13 => ?_) (fun c13 => ?_)
    · refine m_iconst (v := -1) dX7_commonFront_54 (by decide) ?_
      exact m_iret (ty := .int) hR dX7_commonFront_55 (⟨by rw [show cfront (bw k fb) k xs ys = none from List.find?_eq_none.mpr (fun q hq => by rw [g q (by have := List.mem_range.mp hq; omega)]; decide)]; rfl, rfl⟩)
    · refine m_aload_n dX7_commonFront_16 rfl ?_
      refine m_get fl_X7_24 (by decide) rfl rfl dX7_commonFront_17 ?_
      refine m_aload_n dX7_commonFront_20 rfl ?_
      refine m_get fl_X7_18 (by decide) rfl rfl dX7_commonFront_21 ?_
      refine m_iload_n dX7_commonFront_24 rfl ?_
      refine m_callVIp (s_X2_canTakeOff h (j := 9) (by decide) hr (p := p) (by omega)) cv_X7_84 dX7_commonFront_25 ?_
      refine m_if_eq 48 dX7_commonFront_28 (by decide) (fun c28 => ?_) (fun c28 => ?_)
      · first | refine m_iincN 1 dX7_commonFront_48 (by decide) rfl rfl ?_ | refine m_iinc dX7_commonFront_48 rfl rfl ?_
        refine m_goto 2 dX7_commonFront_51 (by decide) ?_
        refine ih (by omega) (fun q hq => ?_)
        by_cases e : q = p
        · subst e; cases hf1 : (front (bw k fb) xs q).isSome <;> simp_all
        · exact g q (by omega)
      · refine m_aload_n dX7_commonFront_31 rfl ?_
        refine m_get fl_X7_24 (by decide) rfl rfl dX7_commonFront_32 ?_
        refine m_aload_n dX7_commonFront_35 rfl ?_
        refine m_get fl_X7_21 (by decide) rfl rfl dX7_commonFront_36 ?_
        refine m_iload_n dX7_commonFront_39 rfl ?_
        refine m_callVIp (s_X2_canTakeOff h (j := 10) (by decide) hr2 (p := p) (by omega)) cv_X7_84 dX7_commonFront_40 ?_
        refine m_if_eq 48 dX7_commonFront_43 (by decide) (fun c43 => ?_) (fun c43 => ?_)
        · first | refine m_iincN 1 dX7_commonFront_48 (by decide) rfl rfl ?_ | refine m_iinc dX7_commonFront_48 rfl rfl ?_
          refine m_goto 2 dX7_commonFront_51 (by decide) ?_
          refine ih (by omega) (fun q hq => ?_)
          by_cases e : q = p
          · subst e; cases hf2 : (front (bw k fb) ys q).isSome <;> simp_all
          · exact g q (by omega)
        · refine m_iload_n dX7_commonFront_46 rfl ?_
          exact m_iret (ty := .int) hR dX7_commonFront_47 (⟨by rw [show cfront (bw k fb) k xs ys = some p from find_range k p (by omega) (by cases hf1 : (front (bw k fb) xs p).isSome <;> cases hf2 : (front (bw k fb) ys p).isSome <;> simp_all) g]; rfl, rfl⟩)
    )
  refine m_iconstN 0 dX7_commonFront_0 (by decide) ?_
  refine m_istore_n dX7_commonFront_1 (Nat.le_of_ble_eq_true rfl) rfl ?_
  exact loop 0 (Nat.zero_le _) (fun q hq => absurd hq (Nat.not_lt_zero q))
theorem s_X7_splitCommon (h : letIs d k fb) (hj : j < 13) (hj2 : j2 < 13) (hj8 : j < 8) (hj28 : j2 < 8) (hr : rowIs d j xs) (hr2 : rowIs d j2 ys) (hx : ∀ x ∈ xs, x < k) (hy : ∀ y ∈ ys, y < k) : mSpecV l W mX7_splitCommon (dep + 4) [.ref (xad W 51), .ref (xad W (j + 4)), .ref (xad W (j2 + 4))] d (fun d' => rowIs d' 8 (splitF (bw k fb) k 24 [] xs ys).1 ∧ rowIs d' 9 (splitF (bw k fb) k 24 [] xs ys).2.1 ∧ rowIs d' 10 (splitF (bw k fb) k 24 [] xs ys).2.2 ∧ chg [12, 25, 13, 26, 14, 27] d d') := by
  have hk := h.2.2.2.1
  refine m_spec RX7 [some (.ref (xad W 51)), some (.ref (xad W (j + 4))), some (.ref (xad W (j2 + 4))), none, none] rfl (by decide +kernel) rfl rfl (fun K hR => ?_)
  have loop : ∀ i, i ≤ 24 → ∀ (cs us vs : List Nat) (d1 : xD) (o4 : Option Value), rowIs d1 8 cs → rowIs d1 9 us → rowIs d1 10 vs → cs.length = i → chg [12, 25, 13, 26, 14, 27] d d1 → splitF (bw k fb) k 24 [] xs ys = splitF (bw k fb) k (24 - i) cs us vs → mG W K cX7_splitCommon RX7 (dep + 4) d1 25 [some (.ref (xad W 51)), some (.ref (xad W (j + 4))), some (.ref (xad W (j2 + 4))), some (.int (nI i)), o4] [] := x_up _ (fun i hi ih cs us vs d1 o4 g1 g2 g3 g4 g5 g6 => by
    have hl1 : letIs d1 k fb := h.fr g5 (by simp) (by simp)
    cases hc : cfront (bw k fb) k us vs with
    | none =>
      have hs : i < 24 → splitF (bw k fb) k 24 [] xs ys = (cs, us, vs) := fun _ => by
        rw [g6, show 24 - i = (23 - i) + 1 by omega]
        show (match cfront (bw k fb) k us vs with | none => _ | some p => _) = _
        rw [hc]
      refine m_iload_n dX7_splitCommon_25 rfl ?_
      refine m_bipushN 24 dX7_splitCommon_26 (by decide) ?_
      first | refine m_icmp_geN 88 dX7_splitCommon_28 (by decide) (by omega) (by omega) (fun c28 => ?_) (fun c28 => ?_) | refine m_icmp_ge 88 dX7_splitCommon_28 (by decide) (fun c28 => ?_) (fun c28 => ?_)
      · exact m_vret hR dX7_splitCommon_88 (⟨by rw [g6, show 24 - i = 0 by omega]; exact g1, by rw [g6, show 24 - i = 0 by omega]; exact g2, by rw [g6, show 24 - i = 0 by omega]; exact g3, g5⟩)
      · refine m_aload_n dX7_splitCommon_31 rfl ?_
        refine m_callVIp (s_X7_commonFront hl1 g2 g3) cv_X7_68 dX7_splitCommon_32 ?_
        rw [hc]
        simp only [optI]
        refine m_istore dX7_splitCommon_35 (Nat.le_of_ble_eq_true rfl) rfl ?_
        refine m_iload dX7_splitCommon_37 rfl ?_
        refine m_iconst (v := -1) dX7_splitCommon_39 (by decide) ?_
        refine m_icmp_ne 44 dX7_splitCommon_40 (by decide) (fun c40 => by exfalso; exact c40 rfl) (fun c40 => ?_)
        exact m_vret hR dX7_splitCommon_43 (⟨by rw [hs (by omega)]; exact g1, by rw [hs (by omega)]; exact g2, by rw [hs (by omega)]; exact g3, g5⟩)
    | some p =>
      have hpf := List.find?_some hc
      have hpk : p < k := List.mem_range.mp (List.mem_of_find?_eq_some hc)
      have hneg : ¬ nI p = -1 := fun z => by have := nI_pos (n := p) (by omega); rw [z] at this; exact this (by decide)
      simp only [Bool.and_eq_true] at hpf
      obtain ⟨i1, hi1⟩ := Option.isSome_iff_exists.mp hpf.1
      obtain ⟨i2, hi2⟩ := Option.isSome_iff_exists.mp hpf.2
      refine m_iload_n dX7_splitCommon_25 rfl ?_
      refine m_bipushN 24 dX7_splitCommon_26 (by decide) ?_
      first | refine m_icmp_geN 88 dX7_splitCommon_28 (by decide) (by omega) (by omega) (fun c28 => ?_) (fun c28 => ?_) | refine m_icmp_ge 88 dX7_splitCommon_28 (by decide) (fun c28 => ?_) (fun c28 => ?_)
      · exact m_vret hR dX7_splitCommon_88 (⟨by rw [g6, show 24 - i = 0 by omega]; exact g1, by rw [g6, show 24 - i = 0 by omega]; exact g2, by rw [g6, show 24 - i = 0 by omega]; exact g3, g5⟩)
      · refine m_aload_n dX7_splitCommon_31 rfl ?_
        refine m_callVIp (s_X7_commonFront hl1 g2 g3) cv_X7_68 dX7_splitCommon_32 ?_
        rw [hc]
        simp only [optI]
        refine m_istore dX7_splitCommon_35 (Nat.le_of_ble_eq_true rfl) rfl ?_
        refine m_iload dX7_splitCommon_37 rfl ?_
        refine m_iconst (v := -1) dX7_splitCommon_39 (by decide) ?_
        refine m_icmp_ne 44 dX7_splitCommon_40 (by decide) (fun c40 => ?_) (fun c40 => by exfalso; exact c40 hneg)
        refine m_aload_n dX7_splitCommon_44 rfl ?_
        refine m_get fl_X7_24 (by decide) rfl rfl dX7_splitCommon_45 ?_
        refine m_aload_n dX7_splitCommon_48 rfl ?_
        refine m_get fl_X7_18 (by decide) rfl rfl dX7_splitCommon_49 ?_
        refine m_iload dX7_splitCommon_52 rfl ?_
        refine m_callVI (s_X2_takeOff hl1 (j := 9) (by decide) g2 (p := p) (by omega)) cv_X7_48 dX7_splitCommon_54 (fun r54 d54 h54 => ?_)
        refine m_pop dX7_splitCommon_57 rfl ?_
        rcases h54 with ⟨a1, -, -⟩ | ⟨q, a1, a2, a3, a4⟩
        · rw [hi1] at a1; cases a1
        rw [hi1] at a1
        cases a1
        refine m_aload_n dX7_splitCommon_58 rfl ?_
        refine m_get fl_X7_24 (by decide) rfl rfl dX7_splitCommon_59 ?_
        refine m_aload_n dX7_splitCommon_62 rfl ?_
        refine m_get fl_X7_21 (by decide) rfl rfl dX7_splitCommon_63 ?_
        refine m_iload dX7_splitCommon_66 rfl ?_
        refine m_callVI (s_X2_takeOff (hl1.fr a4 (by simp) (by simp)) (j := 10) (by decide) (g3.fr a4 (by simp) (by simp)) (p := p) (by omega)) cv_X7_48 dX7_splitCommon_68 (fun r68 d68 h68 => ?_)
        refine m_pop dX7_splitCommon_71 rfl ?_
        rcases h68 with ⟨b1, -, -⟩ | ⟨q2, b1, b2, b3, b4⟩
        · rw [hi2] at b1; cases b1
        rw [hi2] at b1
        cases b1
        refine m_aload_n dX7_splitCommon_72 rfl ?_
        refine m_get fl_X7_12 (by decide) rfl rfl dX7_splitCommon_73 ?_
        refine m_iload dX7_splitCommon_76 rfl ?_
        refine m_callVI (s_X9_push (j := 8) (by decide) ((g1.fr a4 (by simp) (by simp)).fr b4 (by simp) (by simp)) (x := p) (by omega) (by omega)) cv_X7_71 dX7_splitCommon_78 (fun r78 d78 h78 => ?_)
        refine m_pop dX7_splitCommon_81 rfl ?_
        first | refine m_iincN 1 dX7_splitCommon_82 (by decide) rfl rfl ?_ | refine m_iinc dX7_splitCommon_82 rfl rfl ?_
        refine m_goto 25 dX7_splitCommon_85 (by decide) ?_
        refine ih (by omega) (cs ++ [p]) (us.eraseIdx i1) (vs.eraseIdx i2) _ _ h78.2.1 ((a3.fr b4 (by simp) (by simp)).fr h78.2.2 (by simp) (by simp)) (b3.fr h78.2.2 (by simp) (by simp)) (by simp; omega) (((g5.tr (a4.mono (by simp))).tr (b4.mono (by simp))).tr (h78.2.2.mono (by simp))) ?_
        rw [g6, show 24 - i = (24 - (i + 1)) + 1 by omega]
        show (match cfront (bw k fb) k us vs with | none => _ | some p => splitF (bw k fb) k (24 - (i + 1)) (cs ++ [p]) (tk (bw k fb) us p) (tk (bw k fb) vs p)) = _
        rw [hc]
        simp only [tk, hi1, hi2]
    )
  refine m_aload_n dX7_splitCommon_0 rfl ?_
  refine m_get fl_X7_12 (by decide) rfl rfl dX7_splitCommon_1 ?_
  refine m_callVVp (s_X9_wipe (j := 8) (by decide)) cv_X7_65 dX7_splitCommon_4 ?_
  refine m_aload_n dX7_splitCommon_7 rfl ?_
  refine m_get fl_X7_18 (by decide) rfl rfl dX7_splitCommon_8 ?_
  refine m_aload_n dX7_splitCommon_11 rfl ?_
  refine m_callVV (s_X9_become (k := 9) (j := j) hj (by decide) (by omega) (hr.of (by rw [seI_o _ _ _ _ _ (by omega)]) (fun q _ => by rw [seI_o _ _ _ _ _ (by omega)]))) cv_X7_28 dX7_splitCommon_12 (fun d12 h12 => ?_)
  refine m_aload_n dX7_splitCommon_15 rfl ?_
  refine m_get fl_X7_21 (by decide) rfl rfl dX7_splitCommon_16 ?_
  refine m_aload_n dX7_splitCommon_19 rfl ?_
  refine m_callVV (s_X9_become (k := 10) (j := j2) hj2 (by decide) (by omega) ((hr2.of (by rw [seI_o _ _ _ _ _ (by omega)]) (fun q _ => by rw [seI_o _ _ _ _ _ (by omega)])).fr h12.2 (by simp; omega) (by simp; omega))) cv_X7_28 dX7_splitCommon_20 (fun d20 h20 => ?_)
  refine m_iconstN 0 dX7_splitCommon_23 (by decide) ?_
  refine m_istore_n dX7_splitCommon_24 (Nat.le_of_ble_eq_true rfl) rfl ?_
  exact loop 0 (Nat.zero_le _) [] xs ys _ none (((rowIs.nil (se_s _ _ _ _)).fr h12.2 (by simp) (by simp)).fr h20.2 (by simp) (by simp)) (h12.1.fr h20.2 (by simp) (by simp)) h20.1 rfl (((chg.rf.se (by simp)).tr (h12.2.mono (by simp))).tr (h20.2.mono (by simp))) rfl
theorem splitF_mem {B : Nat → Nat} : ∀ (n : Nat) (cs xs ys : List Nat), (∀ x ∈ (splitF B k n cs xs ys).1, x ∈ cs ∨ x < k) ∧ (∀ x ∈ (splitF B k n cs xs ys).2.1, x ∈ xs) ∧ ∀ y ∈ (splitF B k n cs xs ys).2.2, y ∈ ys := by
  intro n
  induction n with
  | zero => intro cs xs ys; exact ⟨fun x h => Or.inl h, fun x h => h, fun x h => h⟩
  | succ n ih =>
    intro cs xs ys
    unfold splitF
    cases hc : cfront B k xs ys with
    | none => exact ⟨fun x h => Or.inl h, fun x h => h, fun x h => h⟩
    | some p =>
      have hpk : p < k := List.mem_range.mp (List.mem_of_find?_eq_some hc)
      obtain ⟨h1, h2, h3⟩ := ih (cs ++ [p]) (tk B xs p) (tk B ys p)
      refine ⟨fun x hx => ?_, fun x hx => tk_mem (h2 x hx), fun x hx => tk_mem (h3 x hx)⟩
      rcases h1 x hx with h | h
      · rcases List.mem_append.mp h with h | h
        · exact Or.inl h
        · rw [List.mem_singleton.mp h]; exact Or.inr hpk
      · exact Or.inr h
theorem s_X7_makeShared (h : letIs d k fb) (hj8 : j < 8) (hj28 : j2 < 8) (hjc : jc < 13) (hc5 : jc ≠ 5) (hr : rowIs d j xs) (hr2 : rowIs d j2 ys) (hx : ∀ x ∈ xs, x < k) (hy : ∀ y ∈ ys, y < k) : mSpecI l W mX7_makeShared (dep + 5) [.ref (xad W 51), .ref (xad W (j + 4)), .ref (xad W (j2 + 4)), .ref (xad W (jc + 4))] d (fun r d' => r = nI (splitF (bw k fb) k 24 [] xs ys).1.length ∧ rowIs d' jc (leastR (bw k fb) (splitF (bw k fb) k 24 [] xs ys).1) ∧ chg [9, 22, 12, 25, 13, 26, 14, 27, jc + 4, jc + 17] d d') := by
  refine m_spec RX7 [some (.ref (xad W 51)), some (.ref (xad W (j + 4))), some (.ref (xad W (j2 + 4))), some (.ref (xad W (jc + 4)))] rfl (by decide +kernel) rfl rfl (fun K hR => ?_)
  refine m_aload_n dX7_makeShared_0 rfl ?_
  refine m_aload_n dX7_makeShared_1 rfl ?_
  refine m_aload_n dX7_makeShared_2 rfl ?_
  refine m_callVV (s_X7_splitCommon h (by omega) (by omega) hj8 hj28 hr hr2 hx hy) cv_X7_54 dX7_makeShared_3 (fun d3 h3 => ?_)
  refine m_aload_n dX7_makeShared_6 rfl ?_
  refine m_aload_n dX7_makeShared_7 rfl ?_
  refine m_get fl_X7_12 (by decide) rfl rfl dX7_makeShared_8 ?_
  refine m_aload_n dX7_makeShared_11 rfl ?_
  refine m_callVI (s_X7_makeHeap (j := 8) (h.fr h3.2.2.2 (by simp) (by simp)) (by decide) hjc (by decide) hc5 h3.1 (fun x hx1 => ((splitF_mem 24 [] xs ys).1 x hx1).elim (fun z => by cases z) id)) cv_X7_36 dX7_makeShared_12 (fun r12 d12 h12 => ?_)
  exact m_iret (ty := .int) hR dX7_makeShared_15 (⟨h12.1, h12.2.1, (h3.2.2.2.mono (by simp)).tr (h12.2.2.mono (by simp))⟩)
theorem s_X7_isAllFree (h : letIs d k fb) (hj : j < 13) (hj2 : j2 < 13) (hr : rowIs d j xs) (hr2 : rowIs d j2 ys) : mSpecI l W mX7_isAllFree (dep + 2) [.ref (xad W 51), .ref (xad W (j + 4)), .ref (xad W (j2 + 4))] d (fun r d' => r = (if allFr k fb xs ys then 1 else 0) ∧ d' = d) := by
  have hk := h.2.2.2.1
  have h24 := hr.1
  have hpr := bits_lt hr2.2.2.2
  refine m_spec RX7 [some (.ref (xad W 51)), some (.ref (xad W (j + 4))), some (.ref (xad W (j2 + 4))), none, none] rfl (by decide +kernel) rfl rfl (fun K hR => ?_)
  have loop : ∀ i, i ≤ xs.length → (∀ q (hq : q < xs.length), q < i → bw k fb xs[q] &&& bitsOf ys = 0) → mG W K cX7_isAllFree RX7 (dep + 2) d 8 [some (.ref (xad W 51)), some (.ref (xad W (j + 4))), some (.ref (xad W (j2 + 4))), some (.int (nI (bitsOf ys))), some (.int (nI i))] [] := x_up _ (fun i hi ih g => by
    refine m_iload dX7_isAllFree_8 rfl ?_
    refine m_aload_n dX7_isAllFree_10 rfl ?_
    refine m_callVIp (s_X9_length hj hr) cv_X7_40 dX7_isAllFree_11 ?_
    first | refine m_icmp_geN 46 dX7_isAllFree_14 (by decide) (by omega) (by omega) (fun c14 => ?_) (fun c14 => ?_) | refine m_icmp_ge 46 dX7_isAllFree_14 (by decide) (fun c14 => ?_) (fun c14 => ?_)
    · refine m_iconstN 1 dX7_isAllFree_46 (by decide) ?_
      exact m_iret (ty := .boolean) hR dX7_isAllFree_47 (⟨by unfold allFr; rw [if_pos (List.all_eq_true.mpr (fun x hx1 => by obtain ⟨q, hq, rfl⟩ := List.getElem_of_mem hx1; simpa using g q hq (by omega)))]; rfl, rfl⟩)
    · refine m_aload_n dX7_isAllFree_17 rfl ?_
      refine m_get fl_X7_24 (by decide) rfl rfl dX7_isAllFree_18 ?_
      refine m_callVRp (s_X2_letters) cv_X7_75 dX7_isAllFree_21 ?_
      refine m_aload_n dX7_isAllFree_24 rfl ?_
      refine m_iload dX7_isAllFree_25 rfl ?_
      refine m_callVIp (s_X9_atI hj hr (n := i) (by omega)) cv_X7_44 dX7_isAllFree_27 ?_
      have hb := hr.lt (i := i) (by omega)
      refine m_callVIp (s_X3_boundWith h (p := xs[i]) hb) cv_X7_90 dX7_isAllFree_30 ?_
      refine m_iload_n dX7_isAllFree_33 rfl ?_
      refine m_iand dX7_isAllFree_34 ?_
      refine m_eqi (nI_and _ _) ?_
      have hle : bw k fb xs[i] &&& bitsOf ys ≤ bitsOf ys := Nat.and_le_right
      first | refine m_if_eqN 40 dX7_isAllFree_35 (by decide) (by omega) (fun c35 => ?_) (fun c35 => ?_) | refine m_if_eq 40 dX7_isAllFree_35 (by decide) (fun c35 => ?_) (fun c35 => ?_)
      · first | refine m_iincN 1 dX7_isAllFree_40 (by decide) rfl rfl ?_ | refine m_iinc dX7_isAllFree_40 rfl rfl ?_
        refine m_goto 8 dX7_isAllFree_43 (by decide) ?_
        refine ih (by omega) (fun q hq hqi => ?_)
        by_cases e : q = i
        · subst e; exact c35
        · exact g q hq (by omega)
      · refine m_iconstN 0 dX7_isAllFree_38 (by decide) ?_
        exact m_iret (ty := .boolean) hR dX7_isAllFree_39 (⟨by unfold allFr; rw [if_neg (fun z => c35 (by simpa using List.all_eq_true.mp z xs[i] (List.getElem_mem _)))]; rfl, rfl⟩)
    )
  refine m_aload_n dX7_isAllFree_0 rfl ?_
  refine m_callVIp (s_X9_bits hj2 hr2) cv_X7_87 dX7_isAllFree_1 ?_
  refine m_istore_n dX7_isAllFree_4 (Nat.le_of_ble_eq_true rfl) rfl ?_
  refine m_iconstN 0 dX7_isAllFree_5 (by decide) ?_
  refine m_istore dX7_isAllFree_6 (Nat.le_of_ble_eq_true rfl) rfl ?_
  exact loop 0 (Nat.zero_le _) (fun q _ hq => absurd hq (Nat.not_lt_zero q))
theorem s_X7_makeBoth {cs us vs : List Nat} (hsp : splitF (bw k fb) k 24 [] xs ys = (cs, us, vs)) (h : letIs d k fb) (hj8 : j < 8) (hj28 : j2 < 8) (hjc : jc < 13) (hc5 : jc ≠ 5) (hr : rowIs d j xs) (hr2 : rowIs d j2 ys) (hx : ∀ x ∈ xs, x < k) (hy : ∀ y ∈ ys, y < k) : mSpecI l W mX7_makeBoth (dep + 5) [.ref (xad W 51), .ref (xad W (j + 4)), .ref (xad W (j2 + 4)), .ref (xad W (jc + 4))] d (fun r d' => (allFr k fb us vs = false ∧ r = -4 ∧ chg [9, 22, 12, 25, 13, 26, 14, 27] d d') ∨ (allFr k fb us vs = true ∧ ¬ cs.length + us.length + vs.length ≤ 24 ∧ r = -5 ∧ chg [9, 22, 12, 25, 13, 26, 14, 27] d d') ∨ (allFr k fb us vs = true ∧ cs.length + us.length + vs.length ≤ 24 ∧ r = nI (cs.length + us.length + vs.length) ∧ rowIs d' jc (leastR (bw k fb) (cs ++ us ++ vs)) ∧ chg [9, 22, 12, 25, 13, 26, 14, 27, jc + 4, jc + 17] d d')) := by
  have hm := splitF_mem (k := k) (B := bw k fb) 24 [] xs ys
  rw [hsp] at hm
  refine m_spec RX7 [some (.ref (xad W 51)), some (.ref (xad W (j + 4))), some (.ref (xad W (j2 + 4))), some (.ref (xad W (jc + 4)))] rfl (by decide +kernel) rfl rfl (fun K hR => ?_)
  have hall : ∀ x ∈ cs ++ us ++ vs, x < k := fun x hx1 => by
    rcases List.mem_append.mp hx1 with hx1 | hx1
    · rcases List.mem_append.mp hx1 with hx1 | hx1
      · exact (hm.1 x hx1).elim (fun z => by cases z) id
      · exact hx x (hm.2.1 x hx1)
    · exact hy x (hm.2.2 x hx1)
  cases hfr : allFr k fb us vs with
  | false =>
    refine m_aload_n dX7_makeBoth_0 rfl ?_
    refine m_aload_n dX7_makeBoth_1 rfl ?_
    refine m_aload_n dX7_makeBoth_2 rfl ?_
    refine m_callVV (s_X7_splitCommon h (by omega) (by omega) hj8 hj28 hr hr2 hx hy) cv_X7_54 dX7_makeBoth_3 (fun d3 h3 => ?_)
    rw [hsp] at h3
    refine m_aload_n dX7_makeBoth_6 rfl ?_
    refine m_aload_n dX7_makeBoth_7 rfl ?_
    refine m_get fl_X7_18 (by decide) rfl rfl dX7_makeBoth_8 ?_
    refine m_aload_n dX7_makeBoth_11 rfl ?_
    refine m_get fl_X7_21 (by decide) rfl rfl dX7_makeBoth_12 ?_
    refine m_callVIp (s_X7_isAllFree (h.fr h3.2.2.2 (by simp) (by simp)) (j := 9) (j2 := 10) (by decide) (by decide) h3.2.1 h3.2.2.1) cv_X7_58 dX7_makeBoth_15 ?_
    rw [hfr]
    refine m_if_ne 24 dX7_makeBoth_18 (by decide) (fun c18 => by exfalso; exact c18 rfl) (fun c18 => ?_)
    refine m_bipush (v := -4) dX7_makeBoth_21 (by decide) ?_
    exact m_iret (ty := .int) hR dX7_makeBoth_23 (Or.inl ⟨hfr, rfl, h3.2.2.2.mono (by simp)⟩)
  | true =>
    by_cases h1 : cs.length + us.length ≤ 24
    · by_cases h2 : cs.length + us.length + vs.length ≤ 24
      · skip
        refine m_aload_n dX7_makeBoth_0 rfl ?_
        refine m_aload_n dX7_makeBoth_1 rfl ?_
        refine m_aload_n dX7_makeBoth_2 rfl ?_
        refine m_callVV (s_X7_splitCommon h (by omega) (by omega) hj8 hj28 hr hr2 hx hy) cv_X7_54 dX7_makeBoth_3 (fun d3 h3 => ?_)
        rw [hsp] at h3
        refine m_aload_n dX7_makeBoth_6 rfl ?_
        refine m_aload_n dX7_makeBoth_7 rfl ?_
        refine m_get fl_X7_18 (by decide) rfl rfl dX7_makeBoth_8 ?_
        refine m_aload_n dX7_makeBoth_11 rfl ?_
        refine m_get fl_X7_21 (by decide) rfl rfl dX7_makeBoth_12 ?_
        refine m_callVIp (s_X7_isAllFree (h.fr h3.2.2.2 (by simp) (by simp)) (j := 9) (j2 := 10) (by decide) (by decide) h3.2.1 h3.2.2.1) cv_X7_58 dX7_makeBoth_15 ?_
        rw [hfr]
        refine m_if_ne 24 dX7_makeBoth_18 (by decide) (fun c18 => ?_) (fun c18 => by exfalso; exact c18 (by decide))
        refine m_aload_n dX7_makeBoth_24 rfl ?_
        refine m_get fl_X7_12 (by decide) rfl rfl dX7_makeBoth_25 ?_
        refine m_aload_n dX7_makeBoth_28 rfl ?_
        refine m_get fl_X7_18 (by decide) rfl rfl dX7_makeBoth_29 ?_
        refine m_callVI (s_X9_append (k := 8) (j := 9) (by decide) (by decide) (by decide) h3.2.1 h3.1 h1) cv_X7_32 dX7_makeBoth_32 (fun r32 d32 h32 => ?_)
        obtain ⟨rfl, h32⟩ := h32
        refine m_if_eq 64 dX7_makeBoth_35 (by decide) (fun c35 => by exfalso; exact absurd c35 (by decide)) (fun c35 => ?_)
        refine m_aload_n dX7_makeBoth_38 rfl ?_
        refine m_get fl_X7_12 (by decide) rfl rfl dX7_makeBoth_39 ?_
        refine m_aload_n dX7_makeBoth_42 rfl ?_
        refine m_get fl_X7_21 (by decide) rfl rfl dX7_makeBoth_43 ?_
        refine m_callVI (s_X9_append (k := 8) (j := 10) (by decide) (by decide) (by decide) (h3.2.2.1.fr h32.2 (by simp) (by simp)) h32.1 (by simp; omega)) cv_X7_32 dX7_makeBoth_46 (fun r46 d46 h46 => ?_)
        obtain ⟨rfl, h46⟩ := h46
        refine m_if_eq 64 dX7_makeBoth_49 (by decide) (fun c49 => by exfalso; exact absurd c49 (by decide)) (fun c49 => ?_)
        refine m_aload_n dX7_makeBoth_52 rfl ?_
        refine m_aload_n dX7_makeBoth_53 rfl ?_
        refine m_get fl_X7_12 (by decide) rfl rfl dX7_makeBoth_54 ?_
        refine m_aload_n dX7_makeBoth_57 rfl ?_
        refine m_callVI (s_X7_makeHeap (j := 8) (((h.fr h3.2.2.2 (by simp) (by simp)).fr h32.2 (by simp) (by simp)).fr h46.2 (by simp) (by simp)) (by decide) hjc (by decide) hc5 h46.1 hall) cv_X7_36 dX7_makeBoth_58 (fun r58 d58 h58 => ?_)
        refine m_goto 66 dX7_makeBoth_61 (by decide) ?_
        exact m_iret (ty := .int) hR dX7_makeBoth_66 (Or.inr (Or.inr ⟨hfr, h2, by rw [h58.1, List.length_append, List.length_append], h58.2.1, (((h3.2.2.2.mono (by simp)).tr (h32.2.mono (by simp))).tr (h46.2.mono (by simp))).tr (h58.2.2.mono (by simp))⟩))
      · skip
        refine m_aload_n dX7_makeBoth_0 rfl ?_
        refine m_aload_n dX7_makeBoth_1 rfl ?_
        refine m_aload_n dX7_makeBoth_2 rfl ?_
        refine m_callVV (s_X7_splitCommon h (by omega) (by omega) hj8 hj28 hr hr2 hx hy) cv_X7_54 dX7_makeBoth_3 (fun d3 h3 => ?_)
        rw [hsp] at h3
        refine m_aload_n dX7_makeBoth_6 rfl ?_
        refine m_aload_n dX7_makeBoth_7 rfl ?_
        refine m_get fl_X7_18 (by decide) rfl rfl dX7_makeBoth_8 ?_
        refine m_aload_n dX7_makeBoth_11 rfl ?_
        refine m_get fl_X7_21 (by decide) rfl rfl dX7_makeBoth_12 ?_
        refine m_callVIp (s_X7_isAllFree (h.fr h3.2.2.2 (by simp) (by simp)) (j := 9) (j2 := 10) (by decide) (by decide) h3.2.1 h3.2.2.1) cv_X7_58 dX7_makeBoth_15 ?_
        rw [hfr]
        refine m_if_ne 24 dX7_makeBoth_18 (by decide) (fun c18 => ?_) (fun c18 => by exfalso; exact c18 (by decide))
        refine m_aload_n dX7_makeBoth_24 rfl ?_
        refine m_get fl_X7_12 (by decide) rfl rfl dX7_makeBoth_25 ?_
        refine m_aload_n dX7_makeBoth_28 rfl ?_
        refine m_get fl_X7_18 (by decide) rfl rfl dX7_makeBoth_29 ?_
        refine m_callVI (s_X9_append (k := 8) (j := 9) (by decide) (by decide) (by decide) h3.2.1 h3.1 h1) cv_X7_32 dX7_makeBoth_32 (fun r32 d32 h32 => ?_)
        obtain ⟨rfl, h32⟩ := h32
        refine m_if_eq 64 dX7_makeBoth_35 (by decide) (fun c35 => by exfalso; exact absurd c35 (by decide)) (fun c35 => ?_)
        refine m_aload_n dX7_makeBoth_38 rfl ?_
        refine m_get fl_X7_12 (by decide) rfl rfl dX7_makeBoth_39 ?_
        refine m_aload_n dX7_makeBoth_42 rfl ?_
        refine m_get fl_X7_21 (by decide) rfl rfl dX7_makeBoth_43 ?_
        refine m_callVI (s_X9_appendF (k := 8) (j := 10) (by decide) (by decide) (h3.2.2.1.fr h32.2 (by simp) (by simp)) h32.1 (by simp; omega)) cv_X7_32 dX7_makeBoth_46 (fun r46 d46 h46 => ?_)
        obtain ⟨rfl, rfl⟩ := h46
        refine m_if_eq 64 dX7_makeBoth_49 (by decide) (fun c49 => ?_) (fun c49 => by exfalso; exact c49 rfl)
        refine m_bipush (v := -5) dX7_makeBoth_64 (by decide) ?_
        exact m_iret (ty := .int) hR dX7_makeBoth_66 (Or.inr (Or.inl ⟨hfr, h2, rfl, (h3.2.2.2.mono (by simp)).tr (h32.2.mono (by simp))⟩))
    · skip
      refine m_aload_n dX7_makeBoth_0 rfl ?_
      refine m_aload_n dX7_makeBoth_1 rfl ?_
      refine m_aload_n dX7_makeBoth_2 rfl ?_
      refine m_callVV (s_X7_splitCommon h (by omega) (by omega) hj8 hj28 hr hr2 hx hy) cv_X7_54 dX7_makeBoth_3 (fun d3 h3 => ?_)
      rw [hsp] at h3
      refine m_aload_n dX7_makeBoth_6 rfl ?_
      refine m_aload_n dX7_makeBoth_7 rfl ?_
      refine m_get fl_X7_18 (by decide) rfl rfl dX7_makeBoth_8 ?_
      refine m_aload_n dX7_makeBoth_11 rfl ?_
      refine m_get fl_X7_21 (by decide) rfl rfl dX7_makeBoth_12 ?_
      refine m_callVIp (s_X7_isAllFree (h.fr h3.2.2.2 (by simp) (by simp)) (j := 9) (j2 := 10) (by decide) (by decide) h3.2.1 h3.2.2.1) cv_X7_58 dX7_makeBoth_15 ?_
      rw [hfr]
      refine m_if_ne 24 dX7_makeBoth_18 (by decide) (fun c18 => ?_) (fun c18 => by exfalso; exact c18 (by decide))
      refine m_aload_n dX7_makeBoth_24 rfl ?_
      refine m_get fl_X7_12 (by decide) rfl rfl dX7_makeBoth_25 ?_
      refine m_aload_n dX7_makeBoth_28 rfl ?_
      refine m_get fl_X7_18 (by decide) rfl rfl dX7_makeBoth_29 ?_
      refine m_callVI (s_X9_appendF (k := 8) (j := 9) (by decide) (by decide) h3.2.1 h3.1 h1) cv_X7_32 dX7_makeBoth_32 (fun r32 d32 h32 => ?_)
      obtain ⟨rfl, rfl⟩ := h32
      refine m_if_eq 64 dX7_makeBoth_35 (by decide) (fun c35 => ?_) (fun c35 => by exfalso; exact c35 rfl)
      refine m_bipush (v := -5) dX7_makeBoth_64 (by decide) ?_
      exact m_iret (ty := .int) hR dX7_makeBoth_66 (Or.inr (Or.inl ⟨hfr, by omega, rfl, h3.2.2.2.mono (by simp)⟩))
end PAI
