/-! class Order: the rows that follow -/
def bar (fb : Nat → Nat) (b x : Nat) : Nat := fb x &&& (b ||| (2 ^ x - 1))
/-- how many least rows of n letters do not begin with a barred one -/
def fol (k : Nat) (fb : Nat → Nat) : Nat → Nat → Nat
  | 0, _ => 1
  | n + 1, b => ((List.range k).map (fun x => if b.testBit x = true then 0 else fol k fb n (bar fb b x))).sum
def folL (k : Nat) (fb : Nat → Nat) (n b x : Nat) : Nat := if b.testBit x = true then 0 else fol k fb n (bar fb b x)
def folS (k : Nat) (fb : Nat → Nat) (n b i : Nat) : Nat := ((List.range i).map (folL k fb n b)).sum
theorem fol_s (k : Nat) (fb : Nat → Nat) (n b : Nat) : fol k fb (n + 1) b = folS k fb n b k := rfl
theorem folS_s (k : Nat) (fb : Nat → Nat) (n b i : Nat) : folS k fb n b (i + 1) = folS k fb n b i + folL k fb n b i := by
  unfold folS
  rw [List.range_succ, List.map_append, List.sum_append]
  simp
theorem bar_lt {k x : Nat} {fb : Nat → Nat} (h : fbOk k fb) (hx : x < 6) (b : Nat) : bar fb b x < 2 ^ k := by
  unfold bar
  exact Nat.lt_of_le_of_lt Nat.and_le_left (h.2.2.1 x hx)
theorem fol_le {k : Nat} {fb : Nat → Nat} (hk : k ≤ 6) : ∀ n b, fol k fb n b ≤ 6 ^ n := by
  intro n
  induction n with
  | zero => intro b; exact Nat.le_refl _
  | succ n ih =>
    intro b
    have hS : ∀ i, folS k fb n b i ≤ i * 6 ^ n := by
      intro i
      induction i with
      | zero => exact Nat.zero_le _
      | succ i ihi =>
        rw [folS_s, Nat.succ_mul]
        have : folL k fb n b i ≤ 6 ^ n := by
          unfold folL
          split
          · exact Nat.zero_le _
          · exact ih _
        omega
    rw [fol_s, Nat.pow_succ, Nat.mul_comm (6 ^ n)]
    exact Nat.le_trans (hS k) (Nat.mul_le_mul_right _ hk)
theorem folL_le {k : Nat} {fb : Nat → Nat} (hk : k ≤ 6) (n b x : Nat) : folL k fb n b x ≤ 6 ^ n := by
  unfold folL
  split
  · exact Nat.zero_le _
  · exact fol_le hk _ _
theorem folS_le {k : Nat} {fb : Nat → Nat} (hk : k ≤ 6) (n b i : Nat) : folS k fb n b i ≤ i * 6 ^ n := by
  induction i with
  | zero => exact Nat.zero_le _
  | succ i ih =>
    rw [folS_s, Nat.succ_mul]
    have := folL_le (fb := fb) hk n b i
    omega
theorem six_le {n : Nat} (h : n ≤ 20) : 6 ^ n ≤ 6 ^ 20 := Nat.pow_le_pow_right (by decide) h
theorem six20 : 6 ^ 20 < 2 ^ 52 := by decide
/-- the table of what follows holds for up to m letters -/
def folIs (d : xD) (k : Nat) (fb : Nat → Nat) (m : Nat) : Prop := ∀ n, n ≤ m → n < 21 → ∀ b, b < 2 ^ k → d.2 (n + 75) b = lN (fol k fb n b)
theorem folIs.fr {S : List Nat} {d d' : xD} {k m : Nat} {fb : Nat → Nat} (h : folIs d k fb m) (hc : chg S d d') (hS : ∀ o, o ∈ S → o < 75 ∨ 96 ≤ o) : folIs d' k fb m := fun n hn hn2 b hb => by
  rw [(hc (n + 75) (fun z => by have := hS _ z; omega)).2]
  exact h n hn hn2 b hb
section ORD
variable {l : Launch} {W : xW} {dep : Nat} {d : xD} {k m : Nat} {fb : Nat → Nat} {j : Nat} {xs ys : List Nat}
theorem s_X6_barredBehind (h : letIs d k fb) {b x : Nat} (hx : x < k) : mSpecI l W mX6_barredBehind (dep + 1) [.ref (xad W 62), .int (nI b), .int (nI x)] d (fun r d' => r = nI (bar fb b x) ∧ d' = d) := by
  have hk := h.2.2.2.1
  refine m_spec RX6 [some (.ref (xad W 62)), some (.int (nI b)), some (.int (nI x))] rfl (by decide +kernel) rfl rfl (fun K hR => ?_)
  refine m_aload_n dX6_barredBehind_0 rfl ?_
  refine m_get fl_X6_32 (by decide) rfl rfl dX6_barredBehind_1 ?_
  refine m_iload_n dX6_barredBehind_4 rfl ?_
  refine m_callVIp (s_X3_freeWith h (p := x) (by omega)) cv_X6_36 dX6_barredBehind_5 ?_
  refine m_iload_n dX6_barredBehind_8 rfl ?_
  refine m_iconstN 1 dX6_barredBehind_9 (by decide) ?_
  refine m_iload_n dX6_barredBehind_10 rfl ?_
  refine m_ishl dX6_barredBehind_11 ?_
  refine m_iconstN 1 dX6_barredBehind_12 (by decide) ?_
  refine m_isub dX6_barredBehind_13 ?_
  refine m_eqi (nI_all x (by omega)) ?_
  refine m_ior dX6_barredBehind_14 ?_
  refine m_eqi (nI_or b (2 ^ x - 1)) ?_
  refine m_iand dX6_barredBehind_15 ?_
  refine m_eqi (nI_and (fb x) _) ?_
  exact m_iret (ty := .int) hR dX6_barredBehind_16 (⟨rfl, rfl⟩)
theorem s_X6_howManyFollow (h : folIs d k fb m) {n b : Nat} (hk : k ≤ 6) (hn : n ≤ m) (hn2 : n < 21) (hb : b < 2 ^ k) : mSpecL l W mX6_howManyFollow dep [.ref (xad W 62), .int (nI n), .int (nI b)] d (fun r d' => r = lN (fol k fb n b) ∧ d' = d) := by
  have h2 : 2 ^ k ≤ 2 ^ 6 := Nat.pow_le_pow_right (by decide) hk
  refine m_spec RX6 [some (.ref (xad W 62)), some (.int (nI n)), some (.int (nI b)), none] rfl (by decide +kernel) rfl rfl (fun K hR => ?_)
  refine m_iload_n dX6_howManyFollow_0 rfl ?_
  refine m_if_ltN 13 dX6_howManyFollow_1 (by decide) (by omega) ?_
  refine m_iload_n dX6_howManyFollow_4 rfl ?_
  refine m_aload_n dX6_howManyFollow_5 rfl ?_
  refine m_get fl_X6_11 (by decide) rfl rfl dX6_howManyFollow_6 ?_
  refine m_alen (by omega) (by first | rfl | exact xcell_arr _ _ _ (by omega) | exact xcell_mv _ _ (by omega) | exact xcell_fo _ _ (by omega) | exact xcell_ne _ _ (by omega)) (by decide) dX6_howManyFollow_9 ?_
  first | refine m_icmp_ltN 15 dX6_howManyFollow_10 (by decide) (by omega) (by omega) (fun c10 => ?_) (fun c10 => by exfalso; omega) | refine m_icmp_lt 15 dX6_howManyFollow_10 (by decide) (fun c10 => ?_) (fun c10 => by exfalso; omega)
  refine m_aload_n dX6_howManyFollow_15 rfl ?_
  refine m_get fl_X6_11 (by decide) rfl rfl dX6_howManyFollow_16 ?_
  refine m_iload_n dX6_howManyFollow_19 rfl ?_
  refine m_aald (by decide) rfl (by decide) (by decide) (by omega) (if_pos (by omega)) dX6_howManyFollow_20 ?_
  refine m_astore_n dX6_howManyFollow_21 (Nat.le_of_ble_eq_true rfl) rfl ?_
  refine m_iload_n dX6_howManyFollow_22 rfl ?_
  refine m_if_ltN 38 dX6_howManyFollow_23 (by decide) (by omega) ?_
  refine m_iload_n dX6_howManyFollow_26 rfl ?_
  refine m_aload_n dX6_howManyFollow_27 rfl ?_
  refine m_alen (by omega) (by first | rfl | exact xcell_arr _ _ _ (by omega) | exact xcell_mv _ _ (by omega) | exact xcell_fo _ _ (by omega) | exact xcell_ne _ _ (by omega)) (by decide) dX6_howManyFollow_28 ?_
  first | refine m_icmp_geN 38 dX6_howManyFollow_29 (by decide) (by omega) (by omega) (fun c29 => by exfalso; omega) (fun c29 => ?_) | refine m_icmp_ge 38 dX6_howManyFollow_29 (by decide) (fun c29 => by exfalso; omega) (fun c29 => ?_)
  refine m_aload_n dX6_howManyFollow_32 rfl ?_
  refine m_iload_n dX6_howManyFollow_33 rfl ?_
  refine m_lald (by first | exact ⟨by decide, by decide, fun _ => rfl⟩ | exact isL_fo _ (by omega)) (by omega) dX6_howManyFollow_34 ?_
  refine m_eql (h n hn hn2 b hb) ?_
  refine m_goto 39 dX6_howManyFollow_35 (by decide) ?_
  exact m_lret hR dX6_howManyFollow_39 (⟨rfl, rfl⟩)
theorem s_X6_howManyFollowLetter (h : letIs d k fb) (hf : folIs d k fb m) {n b x : Nat} (hn : n ≤ m) (hn2 : n < 21) (hb : b < 2 ^ k) (hd : d.1 62 4 = nI b) (hx : x < k) : mSpecL l W mX6_howManyFollowLetter (dep + 2) [.ref (xad W 62), .int (nI n), .int (nI x)] d (fun r d' => r = lN (folL k fb n b x) ∧ d' = d) := by
  have hk := h.2.2.2.1
  have h2 : 2 ^ k ≤ 2 ^ 6 := Nat.pow_le_pow_right (by decide) hk
  refine m_spec RX6 [some (.ref (xad W 62)), some (.int (nI n)), some (.int (nI x))] rfl (by decide +kernel) rfl rfl (fun K hR => ?_)
  refine m_aload_n dX6_howManyFollowLetter_0 rfl ?_
  refine m_get fl_X6_24 (by decide) rfl rfl dX6_howManyFollowLetter_1 ?_
  refine m_eqi (hd) ?_
  refine m_iload_n dX6_howManyFollowLetter_4 rfl ?_
  refine m_ishr dX6_howManyFollowLetter_5 ?_
  refine m_iconstN 1 dX6_howManyFollowLetter_6 (by decide) ?_
  refine m_iand dX6_howManyFollowLetter_7 ?_
  refine m_eqi (nI_bit (by omega) (by omega)) ?_
  refine m_iconstN 1 dX6_howManyFollowLetter_8 (by decide) ?_
  have hb2 : (b.testBit x).toNat < 2 := Bool.toNat_lt _
  first | refine m_icmp_neN 16 dX6_howManyFollowLetter_9 (by decide) (by omega) (by omega) (fun c9 => ?_) (fun c9 => ?_) | refine m_icmp_ne 16 dX6_howManyFollowLetter_9 (by decide) (fun c9 => ?_) (fun c9 => ?_)
  · refine m_aload_n dX6_howManyFollowLetter_16 rfl ?_
    refine m_iload_n dX6_howManyFollowLetter_17 rfl ?_
    refine m_aload_n dX6_howManyFollowLetter_18 rfl ?_
    refine m_aload_n dX6_howManyFollowLetter_19 rfl ?_
    refine m_get fl_X6_24 (by decide) rfl rfl dX6_howManyFollowLetter_20 ?_
    refine m_eqi (hd) ?_
    refine m_iload_n dX6_howManyFollowLetter_23 rfl ?_
    refine m_callVIp (s_X6_barredBehind h (b := b) hx) cv_X6_68 dX6_howManyFollowLetter_24 ?_
    refine m_callVLp (s_X6_howManyFollow hf hk hn hn2 (bar_lt h.2.2 (x := x) (by omega) b)) cv_X6_61 dX6_howManyFollowLetter_27 ?_
    exact m_lret hR dX6_howManyFollowLetter_30 (⟨by unfold folL; rw [if_neg (by cases hc : b.testBit x <;> simp_all)], rfl⟩)
  · refine m_lconstN 0 dX6_howManyFollowLetter_12 (by decide) ?_
    refine m_goto 30 dX6_howManyFollowLetter_13 (by decide) ?_
    exact m_lret hR dX6_howManyFollowLetter_30 (⟨by unfold folL; rw [if_pos (by cases hc : b.testBit x <;> simp_all)], rfl⟩)
theorem s_X6_sumFollowing (h : letIs d k fb) (hf : folIs d k fb m) {n b : Nat} (hn : n ≤ m) (hn2 : n < 20) (hb : b < 2 ^ k) (hd : d.1 62 4 = nI b) : mSpecL l W mX6_sumFollowing (dep + 3) [.ref (xad W 62), .int (nI n)] d (fun r d' => r = lN (fol k fb (n + 1) b) ∧ d' = d) := by
  have hk := h.2.2.2.1
  refine m_spec RX6 [some (.ref (xad W 62)), some (.int (nI n)), none, none, none] rfl (by decide +kernel) rfl rfl (fun K hR => ?_)
  have loop : ∀ i, i ≤ k → mG W K cX6_sumFollowing RX6 (dep + 3) d 5 [some (.ref (xad W 62)), some (.int (nI n)), some (.long (lN (folS k fb n b i))), none, some (.int (nI i))] [] := x_up _ (fun i hi ih => by
    refine m_iload dX6_sumFollowing_5 rfl ?_
    refine m_aload_n dX6_sumFollowing_7 rfl ?_
    refine m_get fl_X6_32 (by decide) rfl rfl dX6_sumFollowing_8 ?_
    refine m_callVIp (s_X3_size h) cv_X6_72 dX6_sumFollowing_11 ?_
    first | refine m_icmp_geN 33 dX6_sumFollowing_14 (by decide) (by omega) (by omega) (fun c14 => ?_) (fun c14 => ?_) | refine m_icmp_ge 33 dX6_sumFollowing_14 (by decide) (fun c14 => ?_) (fun c14 => ?_)
    · refine m_lload_n dX6_sumFollowing_33 rfl ?_
      have e6 : i = k := by omega
      subst e6
      exact m_lret hR dX6_sumFollowing_34 (⟨rfl, rfl⟩)
    · refine m_lload_n dX6_sumFollowing_17 rfl ?_
      refine m_aload_n dX6_sumFollowing_18 rfl ?_
      refine m_iload_n dX6_sumFollowing_19 rfl ?_
      refine m_iload dX6_sumFollowing_20 rfl ?_
      refine m_callVLp (s_X6_howManyFollowLetter h hf hn (by omega) hb hd (x := i) (by omega)) cv_X6_76 dX6_sumFollowing_22 ?_
      first | refine m_laddN dX6_sumFollowing_25 ?_ | refine m_ladd dX6_sumFollowing_25 ?_
      refine m_lstore_n dX6_sumFollowing_26 (Nat.le_of_ble_eq_true rfl) rfl ?_
      first | refine m_iincN 1 dX6_sumFollowing_27 (by decide) rfl rfl ?_ | refine m_iinc dX6_sumFollowing_27 rfl rfl ?_
      refine m_goto 5 dX6_sumFollowing_30 (by decide) ?_
      have e := ih (by omega)
      rw [folS_s] at e
      exact e
    )
  refine m_lconstN 0 dX6_sumFollowing_0 (by decide) ?_
  refine m_lstore_n dX6_sumFollowing_1 (Nat.le_of_ble_eq_true rfl) rfl ?_
  refine m_iconstN 0 dX6_sumFollowing_2 (by decide) ?_
  refine m_istore dX6_sumFollowing_3 (Nat.le_of_ble_eq_true rfl) rfl ?_
  exact loop 0 (Nat.zero_le _)
def folC : List Nat := [62, 75, 76, 77, 78, 79, 80, 81, 82, 83, 84, 85, 86, 87, 88, 89, 90, 91, 92, 93, 94, 95]
theorem folC_m {i : Nat} (h : i < 21) : i + 75 ∈ folC := (by decide : ∀ i, i < 21 → i + 75 ∈ folC) i h
theorem s_X6_countFollowing (h : letIs d k fb) {n : Nat} (hn : n ≤ 20) : mSpecV l W mX6_countFollowing (dep + 4) [.ref (xad W 62), .int (nI n)] d (fun d' => folIs d' k fb n ∧ chg folC d d') := by
  have hk := h.2.2.2.1
  have h2 : 2 ^ k ≤ 2 ^ 6 := Nat.pow_le_pow_right (by decide) hk
  have h20 := Nat.two_pow_pos k
  refine m_spec RX6 [some (.ref (xad W 62)), some (.int (nI n)), none, none, none, none] rfl (by decide +kernel) rfl rfl (fun K hR => ?_)
  have inner : ∀ i, i < n → (∀ d1 o4 o5, folIs d1 k fb (i + 1) → chg folC d d1 → mG W K cX6_countFollowing RX6 (dep + 4) d1 20 [some (.ref (xad W 62)), some (.int (nI n)), some (.int (nI (2 ^ k - 1))), some (.int (nI (i + 1 + 1))), o4, o5] []) → ∀ b, b ≤ 2 ^ k → ∀ d1, folIs d1 k fb i → (∀ b', b' < b → d1.2 (i + 1 + 75) b' = lN (fol k fb (i + 1) b')) → chg folC d d1 → mG W K cX6_countFollowing RX6 (dep + 4) d1 45 [some (.ref (xad W 62)), some (.int (nI n)), some (.int (nI (2 ^ k - 1))), some (.int (nI (i + 1))), some (.ref (xad W (i + 1 + 75))), some (.int (nI b))] [] := fun i hi done => x_up _ (fun b hb ih d1 g1 g2 g3 => by
    have hl1 : letIs d1 k fb := h.fr g3 (by simp [folC]) (by simp [folC])
    refine m_iload dX6_countFollowing_45 rfl ?_
    refine m_iload_n dX6_countFollowing_47 rfl ?_
    first | refine m_icmp_gtN 83 dX6_countFollowing_48 (by decide) (by omega) (by omega) (fun c48 => ?_) (fun c48 => ?_) | refine m_icmp_gt 83 dX6_countFollowing_48 (by decide) (fun c48 => ?_) (fun c48 => ?_)
    · first | refine m_iincN 1 dX6_countFollowing_83 (by decide) rfl rfl ?_ | refine m_iinc dX6_countFollowing_83 rfl rfl ?_
      refine m_goto 20 dX6_countFollowing_86 (by decide) ?_
      refine done d1 _ _ (fun n hn hn2 b' hb' => ?_) g3
      by_cases e : n = i + 1
      · subst e; exact g2 b' (by omega)
      · exact g1 n (by omega) hn2 b' hb'
    · refine m_iload dX6_countFollowing_51 rfl ?_
      refine m_aload dX6_countFollowing_53 rfl ?_
      refine m_alen (by omega) (xcell_fo W _ (j := i + 1) (by omega)) (by decide) dX6_countFollowing_55 ?_
      first | refine m_icmp_geN 83 dX6_countFollowing_56 (by decide) (by omega) (by omega) (fun c56 => by exfalso; omega) (fun c56 => ?_) | refine m_icmp_ge 83 dX6_countFollowing_56 (by decide) (fun c56 => by exfalso; omega) (fun c56 => ?_)
      refine m_aload_n dX6_countFollowing_59 rfl ?_
      refine m_iload dX6_countFollowing_60 rfl ?_
      refine m_put fl_X6_24 (by decide) rfl (Nat.le_of_ble_eq_true rfl) rfl dX6_countFollowing_62 ?_
      refine m_aload dX6_countFollowing_65 rfl ?_
      refine m_iload dX6_countFollowing_67 rfl ?_
      refine m_aload_n dX6_countFollowing_69 rfl ?_
      refine m_iload_n dX6_countFollowing_70 rfl ?_
      refine m_iconstN 1 dX6_countFollowing_71 (by decide) ?_
      first | refine m_isubN dX6_countFollowing_72 (by omega) ?_ | refine m_isub dX6_countFollowing_72 ?_
      refine m_callVLp (s_X6_sumFollowing (hl1.fr (chg.rf.se (S := [62]) (by simp)) (by simp) (by simp)) (m := i) (n := i) (b := b) (fun n hn hn2 b hb => g1 n hn hn2 b hb) (by omega) (by omega) (by omega) (se_s _ _ _ _)) cv_X6_96 dX6_countFollowing_73 ?_
      refine m_last (isL_fo W (j := i + 1) (by omega)) (by omega) dX6_countFollowing_76 ?_
      first | refine m_iincN 1 dX6_countFollowing_77 (by decide) rfl rfl ?_ | refine m_iinc dX6_countFollowing_77 rfl rfl ?_
      refine m_goto 45 dX6_countFollowing_80 (by decide) ?_
      refine ih (by omega) _ (fun n hn hn2 b' hb' => ?_) (fun b' hb' => ?_) ((g3.se (by simp [folC])).seL (folC_m (by omega)))
      · exact (seL_oq _ _ (by omega) _).trans (g1 n hn hn2 b' hb')
      · by_cases e : b' = b
        · subst e; exact seL_s' _ _ _ _
        · exact (seL_n _ _ e).trans (g2 b' (by omega))
    )
  have outer : ∀ i, i ≤ n → ∀ d1 o4 o5, folIs d1 k fb i → chg folC d d1 → mG W K cX6_countFollowing RX6 (dep + 4) d1 20 [some (.ref (xad W 62)), some (.int (nI n)), some (.int (nI (2 ^ k - 1))), some (.int (nI (i + 1))), o4, o5] [] := x_up _ (fun i hi ih d1 o4 o5 g1 g2 => by
    refine m_iload_n dX6_countFollowing_20 rfl ?_
    refine m_iload_n dX6_countFollowing_21 rfl ?_
    first | refine m_icmp_gtN 89 dX6_countFollowing_22 (by decide) (by omega) (by omega) (fun c22 => ?_) (fun c22 => ?_) | refine m_icmp_gt 89 dX6_countFollowing_22 (by decide) (fun c22 => ?_) (fun c22 => ?_)
    · have e6 : i = n := by omega
      subst e6
      exact m_vret hR dX6_countFollowing_89 (⟨g1, g2⟩)
    · refine m_iload_n dX6_countFollowing_25 rfl ?_
      refine m_aload_n dX6_countFollowing_26 rfl ?_
      refine m_get fl_X6_11 (by decide) rfl rfl dX6_countFollowing_27 ?_
      refine m_alen (by omega) (by first | rfl | exact xcell_arr _ _ _ (by omega) | exact xcell_mv _ _ (by omega) | exact xcell_fo _ _ (by omega) | exact xcell_ne _ _ (by omega)) (by decide) dX6_countFollowing_30 ?_
      first | refine m_icmp_geN 89 dX6_countFollowing_31 (by decide) (by omega) (by omega) (fun c31 => by exfalso; omega) (fun c31 => ?_) | refine m_icmp_ge 89 dX6_countFollowing_31 (by decide) (fun c31 => by exfalso; omega) (fun c31 => ?_)
      refine m_aload_n dX6_countFollowing_34 rfl ?_
      refine m_get fl_X6_11 (by decide) rfl rfl dX6_countFollowing_35 ?_
      refine m_iload_n dX6_countFollowing_38 rfl ?_
      refine m_aald (by decide) rfl (by decide) (by decide) (by omega) (if_pos (by omega)) dX6_countFollowing_39 ?_
      refine m_astore dX6_countFollowing_40 (Nat.le_of_ble_eq_true rfl) rfl ?_
      refine m_iconstN 0 dX6_countFollowing_42 (by decide) ?_
      refine m_istore dX6_countFollowing_43 (Nat.le_of_ble_eq_true rfl) rfl ?_
      exact inner i (by omega) (ih (by omega)) 0 (Nat.zero_le _) d1 g1 (fun b' hb' => absurd hb' (Nat.not_lt_zero b')) g2
    )
  refine m_aload_n dX6_countFollowing_0 rfl ?_
  refine m_get fl_X6_32 (by decide) rfl rfl dX6_countFollowing_1 ?_
  refine m_callVIp (s_X3_allBits h) cv_X6_87 dX6_countFollowing_4 ?_
  refine m_istore_n dX6_countFollowing_7 (Nat.le_of_ble_eq_true rfl) rfl ?_
  refine m_aload_n dX6_countFollowing_8 rfl ?_
  refine m_get fl_X6_11 (by decide) rfl rfl dX6_countFollowing_9 ?_
  refine m_iconstN 0 dX6_countFollowing_12 (by decide) ?_
  refine m_aald (by decide) rfl (by decide) (by decide) (by omega) (if_pos (by omega)) dX6_countFollowing_13 ?_
  refine m_lconstN 1 dX6_countFollowing_14 (by decide) ?_
  refine m_callSV (s_J7_fillL (o := 75) (n := 64) (isL_fo W (j := 0) (by decide)) 1) cs_X6_90 dX6_countFollowing_15 (fun d15 h15 => ?_)
  refine m_iconstN 1 dX6_countFollowing_18 (by decide) ?_
  refine m_istore_n dX6_countFollowing_19 (Nat.le_of_ble_eq_true rfl) rfl ?_
  exact outer 0 (Nat.zero_le _) _ _ _ (fun n hn hn2 b hb => by rw [show n = 0 by omega]; exact h15.1 b (by omega)) (h15.2.mono (by simp [folC]))
end ORD
