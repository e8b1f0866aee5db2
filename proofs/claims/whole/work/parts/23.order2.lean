/-! class Order: letters by place, place by letters -/
/-- the letter whose rows hold number a -/
def pickF (k : Nat) (fb : Nat → Nat) (n b a : Nat) : Nat := ((List.range k).find? (fun x => decide (a < folS k fb n b (x + 1)))).getD 0
/-- the row of n letters with number a -/
def unr (k : Nat) (fb : Nat → Nat) : Nat → Nat → Nat → List Nat
  | 0, _, _ => []
  | n + 1, b, a => pickF k fb n b a :: unr k fb n (bar fb b (pickF k fb n b a)) (a - folS k fb n b (pickF k fb n b a))
/-- the number of a row -/
def rnk (k : Nat) (fb : Nat → Nat) : Nat → List Nat → Nat
  | _, [] => 0
  | b, x :: xs => folS k fb xs.length b x + rnk k fb (bar fb b x) xs
theorem folS_mono (k : Nat) (fb : Nat → Nat) (n b : Nat) {i i' : Nat} (h : i ≤ i') : folS k fb n b i ≤ folS k fb n b i' := by
  induction i' with
  | zero => rw [show i = 0 by omega]; exact Nat.le_refl _
  | succ i' ih =>
    by_cases e : i = i' + 1
    · rw [e]; exact Nat.le_refl _
    · rw [folS_s]; exact Nat.le_trans (ih (by omega)) (Nat.le_add_right _ _)
theorem pickF_of {k : Nat} {fb : Nat → Nat} {n b a x : Nat} (hx : x < k) (h1 : folS k fb n b x ≤ a) (h2 : a < folS k fb n b (x + 1)) : pickF k fb n b a = x := by
  unfold pickF
  have : (List.range k).find? (fun x => decide (a < folS k fb n b (x + 1))) = some x := by
    rw [List.find?_range_eq_some]
    refine ⟨by simpa using h2, List.mem_range.mpr hx, fun y hy => ?_⟩
    have := folS_mono k fb n b (show y + 1 ≤ x by omega)
    simp; omega
  rw [this]; rfl
theorem unr_s {k : Nat} {fb : Nat → Nat} {n b a x : Nat} (hx : x < k) (h1 : folS k fb n b x ≤ a) (h2 : a < folS k fb n b (x + 1)) : unr k fb (n + 1) b a = x :: unr k fb n (bar fb b x) (a - folS k fb n b x) := by
  show pickF k fb n b a :: _ = _
  rw [pickF_of hx h1 h2]
theorem folL_ge {k : Nat} {fb : Nat → Nat} {n b a x : Nat} (h1 : folS k fb n b x ≤ a) (h2 : a < folS k fb n b (x + 1)) : b.testBit x = false ∧ a - folS k fb n b x < fol k fb n (bar fb b x) := by
  rw [folS_s] at h2
  unfold folL at h2
  split at h2
  · omega
  next hb => exact ⟨by cases hc : b.testBit x <;> simp_all, by omega⟩
theorem rnk_le {k : Nat} {fb : Nat → Nat} (hk : k ≤ 6) : ∀ (xs : List Nat) (b : Nat), xs.length ≤ 20 → (∀ x ∈ xs, x < 6) → rnk k fb b xs ≤ xs.length * 6 ^ 20
  | [], _, _, _ => Nat.zero_le _
  | x :: xs, b, h, hx => by
    have h1 := rnk_le (fb := fb) hk xs (bar fb b x) (by simp at h; omega) (fun y hy => hx y (List.mem_cons_of_mem _ hy))
    have h2 := folS_le (fb := fb) hk xs.length b x
    have h3 := hx x List.mem_cons_self
    have h4 : x * 6 ^ xs.length ≤ 6 ^ 20 := by
      refine Nat.le_trans (Nat.mul_le_mul_right _ (show x ≤ 6 by omega)) ?_
      rw [Nat.mul_comm, ← Nat.pow_succ]
      exact six_le (by simpa using h)
    show folS k fb xs.length b x + rnk k fb (bar fb b x) xs ≤ (xs.length + 1) * 6 ^ 20
    rw [Nat.succ_mul]
    omega
section ORD
variable {l : Launch} {W : xW} {dep : Nat} {d : xD} {k m : Nat} {fb : Nat → Nat} {j : Nat} {xs ys : List Nat}
theorem s_X6_pickLetter (h : letIs d k fb) (hf : folIs d k fb m) {n b a : Nat} (hn : n ≤ m) (hn2 : n < 20) (hb : b < 2 ^ k) (hd : d.1 62 4 = nI b) (ha : d.2 62 5 = lN a) (hlt : a < folS k fb n b k) : mSpecI l W mX6_pickLetter (dep + 3) [.ref (xad W 62), .int (nI n)] d (fun r d' => (∃ x, x < k ∧ folS k fb n b x ≤ a ∧ a < folS k fb n b (x + 1) ∧ r = nI x ∧ d'.2 62 5 = lN (a - folS k fb n b x)) ∧ d'.1 62 4 = nI b ∧ chg [62] d d') := by
  have hk := h.2.2.2.1
  have h6 := six_le (n := n) (by omega)
  have h62 := six20
  refine m_spec RX6 [some (.ref (xad W 62)), some (.int (nI n)), none, none, none] rfl (by decide +kernel) rfl rfl (fun K hR => ?_)
  have loop : ∀ i, i ≤ k → ∀ d1 o3, folS k fb n b i ≤ a → d1.2 62 5 = lN (a - folS k fb n b i) → d1.1 62 4 = nI b → chg [62] d d1 → mG W K cX6_pickLetter RX6 (dep + 3) d1 2 [some (.ref (xad W 62)), some (.int (nI n)), some (.int (nI i)), o3, none] [] := x_up _ (fun i hi ih d1 o3 g1 g2 g3 g4 => by
    have hl1 : letIs d1 k fb := h.fr g4 (by simp) (by simp)
    have hf1 : folIs d1 k fb m := hf.fr g4 (fun o ho => by simp at ho; omega)
    have hS := folS_le (fb := fb) hk n b k
    have hL := folL_le (fb := fb) hk n b i
    have hSk : k * 6 ^ n ≤ 6 * 6 ^ n := Nat.mul_le_mul_right _ hk
    refine m_iload_n dX6_pickLetter_2 rfl ?_
    refine m_aload_n dX6_pickLetter_3 rfl ?_
    refine m_get fl_X6_32 (by decide) rfl rfl dX6_pickLetter_4 ?_
    refine m_callVIp (s_X3_size hl1) cv_X6_72 dX6_pickLetter_7 ?_
    first | refine m_icmp_geN 47 dX6_pickLetter_10 (by decide) (by omega) (by omega) (fun c10 => by exfalso; rw [show i = k by omega] at g1; omega) (fun c10 => ?_) | refine m_icmp_ge 47 dX6_pickLetter_10 (by decide) (fun c10 => by exfalso; rw [show i = k by omega] at g1; omega) (fun c10 => ?_)
    refine m_aload_n dX6_pickLetter_13 rfl ?_
    refine m_iload_n dX6_pickLetter_14 rfl ?_
    refine m_iload_n dX6_pickLetter_15 rfl ?_
    refine m_callVLp (s_X6_howManyFollowLetter hl1 hf1 hn (by omega) hb g3 (x := i) (by omega)) cv_X6_76 dX6_pickLetter_16 ?_
    refine m_lstore_n dX6_pickLetter_19 (Nat.le_of_ble_eq_true rfl) rfl ?_
    refine m_aload_n dX6_pickLetter_20 rfl ?_
    refine m_get fl_X6_28 (by decide) rfl rfl dX6_pickLetter_21 ?_
    refine m_eql (g2) ?_
    refine m_lload_n dX6_pickLetter_24 rfl ?_
    first | refine m_lcmp_geN 31 dX6_pickLetter_25 dX6_pickLetter_26 (by decide) (by omega) (by omega) (fun c25 => ?_) (fun c25 => ?_) | refine m_lcmp_ge 31 dX6_pickLetter_25 dX6_pickLetter_26 (by decide) (fun c25 => ?_) (fun c25 => ?_)
    · refine m_aload_n dX6_pickLetter_31 rfl ?_
      refine m_dup dX6_pickLetter_32 rfl ?_
      refine m_get fl_X6_28 (by decide) rfl rfl dX6_pickLetter_33 ?_
      refine m_eql (g2) ?_
      refine m_lload_n dX6_pickLetter_36 rfl ?_
      first | refine m_lsubN dX6_pickLetter_37 (by omega) ?_ | refine m_lsub dX6_pickLetter_37 ?_
      refine m_putL fl_X6_28 (by decide) rfl (Nat.le_of_ble_eq_true rfl) rfl dX6_pickLetter_38 ?_
      first | refine m_iincN 1 dX6_pickLetter_41 (by decide) rfl rfl ?_ | refine m_iinc dX6_pickLetter_41 rfl rfl ?_
      refine m_goto 2 dX6_pickLetter_44 (by decide) ?_
      refine ih (by omega) _ _ (by rw [folS_s]; omega) (by rw [folS_s, ← Nat.sub_sub]; exact seL_s' _ _ _ _) g3 (g4.seL (by simp))
    · refine m_iload_n dX6_pickLetter_29 rfl ?_
      exact m_iret (ty := .int) hR dX6_pickLetter_30 (⟨⟨i, by omega, g1, by rw [folS_s]; omega, rfl, g2⟩, g3, g4⟩)
    )
  refine m_iconstN 0 dX6_pickLetter_0 (by decide) ?_
  refine m_istore_n dX6_pickLetter_1 (Nat.le_of_ble_eq_true rfl) rfl ?_
  exact loop 0 (Nat.zero_le _) d none (Nat.zero_le _) (by rw [ha]; rfl) hd chg.rf
theorem s_X6_letterOf (h : letIs d k fb) {n i p : Nat} (hn : n ≤ 20) (hi : i < 2 ^ 31) (hp : p < 2 ^ 31) : mSpecI l W mX6_letterOf (dep + 5) [.ref (xad W 62), .int (nI n), .int (nI i), .int (nI p)] d (fun r d' => (r = if p < n ∧ i < fol k fb n 0 then nI ((unr k fb n 0 i).getD p 0) else -1) ∧ chg folC d d') := by
  have hk := h.2.2.2.1
  have h20 := Nat.two_pow_pos k
  have h62 := six20
  have hfl := Nat.le_trans (fol_le (fb := fb) hk n 0) (six_le hn)
  refine m_spec RX6 [some (.ref (xad W 62)), some (.int (nI n)), some (.int (nI i)), some (.int (nI p)), none, none] rfl (by decide +kernel) rfl rfl (fun K hR => ?_)
  have loop : p < n → i < fol k fb n 0 → ∀ t, t ≤ p + 1 → ∀ d1 v pre b a, pre.length = t → unr k fb n 0 i = pre ++ unr k fb (n - t) b a → (t = 0 ∨ v = nI (pre.getD (t - 1) 0)) → a < fol k fb (n - t) b → b < 2 ^ k → d1.1 62 4 = nI b → d1.2 62 5 = lN a → folIs d1 k fb n → chg folC d d1 → mG W K cX6_letterOf RX6 (dep + 5) d1 41 [some (.ref (xad W 62)), some (.int (nI n)), some (.int (nI i)), some (.int (nI p)), some (.int v), some (.int (nI t))] [] := fun hpn hif => x_up _ (fun t ht ih d1 v pre b a g1 g2 g3 g4 g5 g6 g7 g8 g9 => by
    have hl1 : letIs d1 k fb := h.fr g9 (by simp [folC]) (by simp [folC])
    refine m_iload dX6_letterOf_41 rfl ?_
    refine m_iload_n dX6_letterOf_43 rfl ?_
    first | refine m_icmp_gtN 79 dX6_letterOf_44 (by decide) (by omega) (by omega) (fun c44 => ?_) (fun c44 => ?_) | refine m_icmp_gt 79 dX6_letterOf_44 (by decide) (fun c44 => ?_) (fun c44 => ?_)
    · refine m_iload dX6_letterOf_79 rfl ?_
      exact m_iret (ty := .int) hR dX6_letterOf_81 (⟨by
        rw [if_pos ⟨hpn, hif⟩]
        rcases g3 with z | z
        · omega
        · rw [z, g2, show t - 1 = p by omega]
          simp [List.getD, List.getElem?_append_left (show p < pre.length by omega)], g9⟩)
    · refine m_aload_n dX6_letterOf_47 rfl ?_
      refine m_iload_n dX6_letterOf_48 rfl ?_
      refine m_iload dX6_letterOf_49 rfl ?_
      first | refine m_isubN dX6_letterOf_51 (by omega) ?_ | refine m_isub dX6_letterOf_51 ?_
      refine m_iconstN 1 dX6_letterOf_52 (by decide) ?_
      first | refine m_isubN dX6_letterOf_53 (by omega) ?_ | refine m_isub dX6_letterOf_53 ?_
      refine m_eqi ((congrArg nI (show n - t - 1 = n - (t + 1) by omega) : _ = nI (n - (t + 1)))) ?_
      have hm : n - t = n - (t + 1) + 1 := by omega
      rw [hm] at g2 g4
      refine m_callVI (s_X6_pickLetter hl1 g8 (n := n - (t + 1)) (by omega) (by omega) g5 g6 g7 g4) cv_X6_65 dX6_letterOf_54 (fun r54 d54 h54 => ?_)
      obtain ⟨⟨x, q1, q2, q3, rfl, q4⟩, q5, q6⟩ := h54
      have hl5 : letIs d54 k fb := hl1.fr q6 (by simp) (by simp)
      refine m_istore dX6_letterOf_57 (Nat.le_of_ble_eq_true rfl) rfl ?_
      refine m_aload_n dX6_letterOf_59 rfl ?_
      refine m_aload_n dX6_letterOf_60 rfl ?_
      refine m_aload_n dX6_letterOf_61 rfl ?_
      refine m_get fl_X6_24 (by decide) rfl rfl dX6_letterOf_62 ?_
      refine m_eqi (q5) ?_
      refine m_iload dX6_letterOf_65 rfl ?_
      refine m_callVIp (s_X6_barredBehind hl5 (b := b) (x := x) q1) cv_X6_68 dX6_letterOf_67 ?_
      refine m_put fl_X6_24 (by decide) rfl (Nat.le_of_ble_eq_true rfl) rfl dX6_letterOf_70 ?_
      first | refine m_iincN 1 dX6_letterOf_73 (by decide) rfl rfl ?_ | refine m_iinc dX6_letterOf_73 rfl rfl ?_
      refine m_goto 41 dX6_letterOf_76 (by decide) ?_
      refine ih (by omega) _ _ (pre ++ [x]) (bar fb b x) (a - folS k fb (n - (t + 1)) b x) (by simp; omega) (by rw [g2, unr_s q1 q2 q3]; simp) (Or.inr ?_) (folL_ge q2 q3).2 (bar_lt h.2.2 (by omega) b) (se_s _ _ _ _) q4 (g8.fr (q6.se (by simp)) (fun o ho => by simp at ho; omega)) (g9.tr ((q6.mono (by simp [folC])).se (by simp [folC])))
      simp [List.getD, g1]
    )
  refine m_aload_n dX6_letterOf_0 rfl ?_
  refine m_iload_n dX6_letterOf_1 rfl ?_
  refine m_callVV (s_X6_countFollowing h hn) cv_X6_57 dX6_letterOf_2 (fun d2 h2 => ?_)
  have hcond : ¬ (p < n ∧ i < fol k fb n 0) → ∀ d1, chg folC d d1 → mG W K cX6_letterOf RX6 (dep + 5) d1 22 [some (.ref (xad W 62)), some (.int (nI n)), some (.int (nI i)), some (.int (nI p)), none, none] [] := fun hc d1 g => by
    refine m_iconst (v := -1) dX6_letterOf_22 (by decide) ?_
    exact m_iret (ty := .int) hR dX6_letterOf_23 (⟨by rw [if_neg hc], g⟩)
  refine m_iload_n dX6_letterOf_5 rfl ?_
  refine m_iload_n dX6_letterOf_6 rfl ?_
  first | refine m_icmp_geN 22 dX6_letterOf_7 (by decide) (by omega) (by omega) (fun c7 => ?_) (fun c7 => ?_) | refine m_icmp_ge 22 dX6_letterOf_7 (by decide) (fun c7 => ?_) (fun c7 => ?_)
  · exact hcond (by omega) d2 h2.2
  · refine m_iload_n dX6_letterOf_10 rfl ?_
    first | refine m_i2lN dX6_letterOf_11 (by omega) ?_ | refine m_i2l dX6_letterOf_11 ?_
    refine m_aload_n dX6_letterOf_12 rfl ?_
    refine m_iload_n dX6_letterOf_13 rfl ?_
    refine m_iconstN 0 dX6_letterOf_14 (by decide) ?_
    refine m_callVLp (s_X6_howManyFollow h2.1 hk (n := n) (b := 0) (Nat.le_refl _) (by omega) h20) cv_X6_61 dX6_letterOf_15 ?_
    first | refine m_lcmp_ltN 24 dX6_letterOf_18 dX6_letterOf_19 (by decide) (by omega) (by omega) (fun c18 => ?_) (fun c18 => ?_) | refine m_lcmp_lt 24 dX6_letterOf_18 dX6_letterOf_19 (by decide) (fun c18 => ?_) (fun c18 => ?_)
    · refine m_aload_n dX6_letterOf_24 rfl ?_
      refine m_iconstN 0 dX6_letterOf_25 (by decide) ?_
      refine m_put fl_X6_24 (by decide) rfl (Nat.le_of_ble_eq_true rfl) rfl dX6_letterOf_26 ?_
      refine m_aload_n dX6_letterOf_29 rfl ?_
      refine m_iload_n dX6_letterOf_30 rfl ?_
      first | refine m_i2lN dX6_letterOf_31 (by omega) ?_ | refine m_i2l dX6_letterOf_31 ?_
      refine m_putL fl_X6_28 (by decide) rfl (Nat.le_of_ble_eq_true rfl) rfl dX6_letterOf_32 ?_
      refine m_iconst (v := -1) dX6_letterOf_35 (by decide) ?_
      refine m_istore dX6_letterOf_36 (Nat.le_of_ble_eq_true rfl) rfl ?_
      refine m_iconstN 0 dX6_letterOf_38 (by decide) ?_
      refine m_istore dX6_letterOf_39 (Nat.le_of_ble_eq_true rfl) rfl ?_
      exact loop (by omega) (by omega) 0 (Nat.zero_le _) _ _ [] 0 i rfl rfl (Or.inl rfl) (by simpa using ‹_›) h20 (se_s d2 62 4 (nI 0)) (seL_s' _ _ _ _) (h2.1.fr ((chg.rf.se (S := [62]) (by simp)).seL (by simp)) (fun o ho => by simp at ho; omega)) ((h2.2.se (by simp [folC])).seL (by simp [folC]))
    · exact hcond (by omega) d2 h2.2
theorem s_X6_placeOfLeast (h : letIs d k fb) (hj : j < 13) (hr : rowIs d j xs) (hx : ∀ x ∈ xs, x < k) (h20 : xs.length ≤ 20) : mSpecI l W mX6_placeOfLeast (dep + 5) [.ref (xad W 62), .ref (xad W (j + 4))] d (fun r d' => r = nI (rnk k fb 0 xs % 1000000007) ∧ chg folC d d') := by
  have hk := h.2.2.2.1
  have hfj : j + 4 ∉ folC ∧ j + 17 ∉ folC := (by decide : ∀ j, j < 13 → j + 4 ∉ folC ∧ j + 17 ∉ folC) j hj
  have hrk := rnk_le (fb := fb) hk xs 0 h20 (fun x hm => by have := hx x hm; omega)
  have h62 := six20
  have hrb : rnk k fb 0 xs < 2 ^ 62 := by
    have : xs.length * 6 ^ 20 ≤ 20 * 6 ^ 20 := Nat.mul_le_mul_right _ h20
    omega
  refine m_spec RX6 [some (.ref (xad W 62)), some (.ref (xad W (j + 4))), none, none, none, none] rfl (by decide +kernel) rfl rfl (fun K hR => ?_)
  have inner : ∀ i (hi : i < xs.length) d1 b s, folIs d1 k fb xs.length → d1.1 62 4 = nI b → b < 2 ^ k → chg folC d d1 → (∀ o5, mG W K cX6_placeOfLeast RX6 (dep + 5) (seI d1 62 4 (nI (bar fb b xs[i]))) 18 [some (.ref (xad W 62)), some (.ref (xad W (j + 4))), some (.long (lN (s + folS k fb (xs.length - (i + 1)) b xs[i]))), none, some (.int (nI (i + 1))), o5] []) → ∀ x, x ≤ xs[i] → mG W K cX6_placeOfLeast RX6 (dep + 5) d1 30 [some (.ref (xad W 62)), some (.ref (xad W (j + 4))), some (.long (lN (s + folS k fb (xs.length - (i + 1)) b x))), none, some (.int (nI i)), some (.int (nI x))] [] := fun i hi d1 b s g1 g2 g3 g4 done => x_up _ (fun x hxi ih => by
    have hl1 : letIs d1 k fb := h.fr g4 (by simp [folC]) (by simp [folC])
    have hr1 : rowIs d1 j xs := hr.fr g4 hfj.1 hfj.2
    have hxk := hx _ (List.getElem_mem hi)
    refine m_iload dX6_placeOfLeast_30 rfl ?_
    refine m_aload_n dX6_placeOfLeast_32 rfl ?_
    refine m_iload dX6_placeOfLeast_33 rfl ?_
    refine m_callVIp (s_X9_atI hj hr1 (n := i) hi) cv_X6_84 dX6_placeOfLeast_35 ?_
    first | refine m_icmp_geN 65 dX6_placeOfLeast_38 (by decide) (by omega) (by omega) (fun c38 => ?_) (fun c38 => ?_) | refine m_icmp_ge 65 dX6_placeOfLeast_38 (by decide) (fun c38 => ?_) (fun c38 => ?_)
    · refine m_aload_n dX6_placeOfLeast_65 rfl ?_
      refine m_aload_n dX6_placeOfLeast_66 rfl ?_
      refine m_aload_n dX6_placeOfLeast_67 rfl ?_
      refine m_get fl_X6_24 (by decide) rfl rfl dX6_placeOfLeast_68 ?_
      refine m_eqi (g2) ?_
      refine m_aload_n dX6_placeOfLeast_71 rfl ?_
      refine m_iload dX6_placeOfLeast_72 rfl ?_
      refine m_callVIp (s_X9_atI hj hr1 (n := i) hi) cv_X6_84 dX6_placeOfLeast_74 ?_
      refine m_callVIp (s_X6_barredBehind hl1 (b := b) (x := xs[i]) hxk) cv_X6_68 dX6_placeOfLeast_77 ?_
      refine m_put fl_X6_24 (by decide) rfl (Nat.le_of_ble_eq_true rfl) rfl dX6_placeOfLeast_80 ?_
      first | refine m_iincN 1 dX6_placeOfLeast_83 (by decide) rfl rfl ?_ | refine m_iinc dX6_placeOfLeast_83 rfl rfl ?_
      refine m_goto 18 dX6_placeOfLeast_86 (by decide) ?_
      have e := done (some (.int (nI x)))
      have e6 : x = xs[i] := by omega
      rw [e6] at e ⊢
      exact e
    · refine m_lload_n dX6_placeOfLeast_41 rfl ?_
      refine m_aload_n dX6_placeOfLeast_42 rfl ?_
      refine m_aload_n dX6_placeOfLeast_43 rfl ?_
      refine m_callVIp (s_X9_length hj hr1) cv_X6_79 dX6_placeOfLeast_44 ?_
      refine m_iload dX6_placeOfLeast_47 rfl ?_
      first | refine m_isubN dX6_placeOfLeast_49 (by omega) ?_ | refine m_isub dX6_placeOfLeast_49 ?_
      refine m_iconstN 1 dX6_placeOfLeast_50 (by decide) ?_
      first | refine m_isubN dX6_placeOfLeast_51 (by omega) ?_ | refine m_isub dX6_placeOfLeast_51 ?_
      refine m_eqi ((congrArg nI (show xs.length - i - 1 = xs.length - (i + 1) by omega) : _ = nI (xs.length - (i + 1)))) ?_
      refine m_iload dX6_placeOfLeast_52 rfl ?_
      refine m_callVLp (s_X6_howManyFollowLetter hl1 g1 (n := xs.length - (i + 1)) (by omega) (by omega) g3 g2 (x := x) (by omega)) cv_X6_76 dX6_placeOfLeast_54 ?_
      first | refine m_laddN dX6_placeOfLeast_57 ?_ | refine m_ladd dX6_placeOfLeast_57 ?_
      refine m_lstore_n dX6_placeOfLeast_58 (Nat.le_of_ble_eq_true rfl) rfl ?_
      first | refine m_iincN 1 dX6_placeOfLeast_59 (by decide) rfl rfl ?_ | refine m_iinc dX6_placeOfLeast_59 rfl rfl ?_
      refine m_goto 30 dX6_placeOfLeast_62 (by decide) ?_
      have e := ih (by omega)
      rw [folS_s, ← Nat.add_assoc] at e
      exact e
    )
  have outer : ∀ i, i ≤ xs.length → ∀ d1 b s o5, folIs d1 k fb xs.length → d1.1 62 4 = nI b → b < 2 ^ k → chg folC d d1 → s + rnk k fb b (xs.drop i) = rnk k fb 0 xs → mG W K cX6_placeOfLeast RX6 (dep + 5) d1 18 [some (.ref (xad W 62)), some (.ref (xad W (j + 4))), some (.long (lN s)), none, some (.int (nI i)), o5] [] := x_up _ (fun i hi ih d1 b s o5 g1 g2 g3 g4 g5 => by
    have hr1 : rowIs d1 j xs := hr.fr g4 hfj.1 hfj.2
    refine m_iload dX6_placeOfLeast_18 rfl ?_
    refine m_aload_n dX6_placeOfLeast_20 rfl ?_
    refine m_callVIp (s_X9_length hj hr1) cv_X6_79 dX6_placeOfLeast_21 ?_
    first | refine m_icmp_geN 89 dX6_placeOfLeast_24 (by decide) (by omega) (by omega) (fun c24 => ?_) (fun c24 => ?_) | refine m_icmp_ge 89 dX6_placeOfLeast_24 (by decide) (fun c24 => ?_) (fun c24 => ?_)
    · refine m_lload_n dX6_placeOfLeast_89 rfl ?_
      have e6 : i = xs.length := by omega
      subst e6
      have e8 : s = rnk k fb 0 xs := by
        rw [List.drop_length] at g5
        exact g5
      subst e8
      refine m_ldc2 ct_X6_49 dX6_placeOfLeast_90 ?_
      refine m_eql (y := lN 1000000007) (by decide +kernel) ?_
      first | refine m_lremN dX6_placeOfLeast_93 (by omega) (by omega) (by omega) ?_ | refine m_lrem dX6_placeOfLeast_93 (by decide) ?_
      first | refine m_l2iN dX6_placeOfLeast_94 ?_ | refine m_l2i dX6_placeOfLeast_94 ?_
      exact m_iret (ty := .int) hR dX6_placeOfLeast_95 (⟨rfl, g4⟩)
    · refine m_iconstN 0 dX6_placeOfLeast_27 (by decide) ?_
      refine m_istore dX6_placeOfLeast_28 (Nat.le_of_ble_eq_true rfl) rfl ?_
      have hil : i < xs.length := by omega
      refine inner i hil d1 b s g1 g2 g3 g4 (fun o5' => ?_) 0 (Nat.zero_le _)
      have hxk := hx _ (List.getElem_mem hil)
      refine ih hil _ (bar fb b xs[i]) _ o5' (g1.fr (chg.rf.se (S := [62]) (by simp)) (fun o ho => by simp at ho; omega)) (se_s _ _ _ _) (bar_lt h.2.2 (by omega) b) (g4.se (by simp [folC])) ?_
      rw [List.drop_eq_getElem_cons hil] at g5
      have e7 : rnk k fb b (xs[i] :: xs.drop (i + 1)) = folS k fb (xs.drop (i + 1)).length b xs[i] + rnk k fb (bar fb b xs[i]) (xs.drop (i + 1)) := rfl
      rw [e7, List.length_drop] at g5
      omega
    )
  refine m_aload_n dX6_placeOfLeast_0 rfl ?_
  refine m_aload_n dX6_placeOfLeast_1 rfl ?_
  refine m_callVIp (s_X9_length hj hr) cv_X6_79 dX6_placeOfLeast_2 ?_
  refine m_callVV (s_X6_countFollowing h h20) cv_X6_57 dX6_placeOfLeast_5 (fun d5 h5 => ?_)
  refine m_aload_n dX6_placeOfLeast_8 rfl ?_
  refine m_iconstN 0 dX6_placeOfLeast_9 (by decide) ?_
  refine m_put fl_X6_24 (by decide) rfl (Nat.le_of_ble_eq_true rfl) rfl dX6_placeOfLeast_10 ?_
  refine m_lconstN 0 dX6_placeOfLeast_13 (by decide) ?_
  refine m_lstore_n dX6_placeOfLeast_14 (Nat.le_of_ble_eq_true rfl) rfl ?_
  refine m_iconstN 0 dX6_placeOfLeast_15 (by decide) ?_
  refine m_istore dX6_placeOfLeast_16 (Nat.le_of_ble_eq_true rfl) rfl ?_
  exact outer 0 (Nat.zero_le _) _ 0 0 none (h5.1.fr (chg.rf.se (S := [62]) (by simp)) (fun o ho => by simp at ho; omega)) (se_s _ _ _ _) (Nat.two_pow_pos k) (h5.2.se (by simp [folC])) (by rw [List.drop_zero, Nat.zero_add])
end ORD
