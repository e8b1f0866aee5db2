/-! the law's model: layers, what must come ahead -/
theorem front_big {k l : Nat} {fb : Nat → Nat} {xs : List Nat} (h : fbOk k fb) (hk : k ≤ l) (hl : l < 6) (hx : ∀ x ∈ xs, x < k) : front (bw k fb) xs l = none := by
  cases xs with
  | nil => rfl
  | cons x t =>
    have hxk := hx x List.mem_cons_self
    have h1 := h.2.2.1 x (by omega)
    have h2 : (fb x).testBit l = false := Nat.testBit_lt_two_pow (Nat.lt_of_lt_of_le h1 (Nat.pow_le_pow_right (by decide) hk))
    unfold front
    rw [if_pos (by rw [bw_not h hl hxk, h2]; rfl), if_neg (by omega)]
theorem fbits_k {k : Nat} {fb : Nat → Nat} {xs : List Nat} (h : fbOk k fb) (hx : ∀ x ∈ xs, x < k) : ∀ n, k + n ≤ 6 → fbits (bw k fb) xs (k + n) = fbits (bw k fb) xs k := by
  intro n
  induction n with
  | zero => intro _; rfl
  | succ n ih =>
    intro hn
    rw [show k + (n + 1) = (k + n) + 1 by omega, fbits_s, front_big h (by omega) (by omega) hx]
    exact ih (by omega)
theorem tkAll_mem {B : Nat → Nat} {s : Nat} {xs : List Nat} : ∀ n, ∀ x ∈ tkAll B s xs n, x ∈ xs := by
  intro n
  induction n with
  | zero => intro x hx; exact hx
  | succ n ih =>
    intro x hx
    rw [tkAll_s] at hx
    split at hx
    · exact ih x (tk_mem hx)
    · exact ih x hx
theorem tkAll_k {k s : Nat} {fb : Nat → Nat} {xs : List Nat} (h : fbOk k fb) (hx : ∀ x ∈ xs, x < k) : ∀ n, k + n ≤ 6 → tkAll (bw k fb) s xs (k + n) = tkAll (bw k fb) s xs k := by
  intro n
  induction n with
  | zero => intro _; rfl
  | succ n ih =>
    intro hn
    rw [show k + (n + 1) = (k + n) + 1 by omega, tkAll_s]
    have hf := front_big (l := k + n) h (by omega) (by omega) (fun x hx2 => hx x (tkAll_mem (B := bw k fb) (s := s) (k + n) x hx2))
    unfold tk
    rw [hf]
    simp only [ite_self]
    exact ih (by omega)
theorem fbits_tb {B : Nat → Nat} {xs : List Nat} {p : Nat} : ∀ n, (fbits B xs n).testBit p = (decide (p < n) && (front B xs p).isSome) := by
  intro n
  induction n with
  | zero => show Nat.testBit 0 p = _; simp
  | succ n ih =>
    rw [fbits_s]
    by_cases e : p = n
    · subst e
      cases hf : (front B xs p).isSome <;> simp [ih, Nat.testBit_or, Nat.testBit_two_pow]
    · have h1 : ¬ n = p := fun z => e z.symm
      have h2 : decide (p < n + 1) = decide (p < n) := by
        have : p < n + 1 ↔ p < n := by omega
        simp [this]
      rw [h2]
      split
      · rw [Nat.testBit_or, ih, Nat.testBit_two_pow]
        simp [h1]
      · exact ih
/-- what is at the front stays there when another letter is taken off -/
theorem front_keep {B : Nat → Nat} {p q : Nat} (hne : p ≠ q) : ∀ (xs : List Nat) (i j : Nat), front B xs p = some i → front B xs q = some j → ∃ j', front B (xs.eraseIdx i) q = some j'
  | [], i, j, h, _ => by cases h
  | x :: xs, i, j, h1, h2 => by
    by_cases hp : (B p).testBit x = true
    · have : x = p := Classical.byContradiction (fun z => by unfold front at h1; rw [if_pos hp, if_neg z] at h1; cases h1)
      subst this
      unfold front at h1
      rw [if_pos hp, if_pos rfl] at h1
      cases h1
      rw [List.eraseIdx_cons_zero]
      unfold front at h2
      by_cases hq : (B q).testBit x = true
      · rw [if_pos hq, if_neg hne] at h2; cases h2
      · rw [if_neg hq] at h2
        cases hf : front B xs q with
        | none => rw [hf] at h2; cases h2
        | some j' => exact ⟨j', rfl⟩
    · unfold front at h1
      rw [if_neg hp] at h1
      cases hf : front B xs p with
      | none => rw [hf] at h1; cases h1
      | some i' =>
        rw [hf] at h1
        simp only [Option.map_some, Option.some.injEq] at h1
        subst h1
        rw [List.eraseIdx_cons_succ]
        by_cases hq : (B q).testBit x = true
        · have : x = q := Classical.byContradiction (fun z => by unfold front at h2; rw [if_pos hq, if_neg z] at h2; cases h2)
          subst this
          refine ⟨0, ?_⟩
          unfold front
          rw [if_pos hq, if_pos rfl]
        · unfold front at h2
          rw [if_neg hq] at h2
          cases hg : front B xs q with
          | none => rw [hg] at h2; cases h2
          | some j1 =>
            obtain ⟨j', hj'⟩ := front_keep hne xs i' j1 hf hg
            refine ⟨j' + 1, ?_⟩
            unfold front
            rw [if_neg hq, hj']; rfl
theorem tkAll_front {B : Nat → Nat} {s : Nat} {xs : List Nat} {q : Nat} (hq : (front B xs q).isSome = true) : ∀ n, n ≤ q → (front B (tkAll B s xs n) q).isSome = true := by
  intro n
  induction n with
  | zero => intro _; exact hq
  | succ n ih =>
    intro hn
    have h1 := ih (by omega)
    rw [tkAll_s]
    split
    · unfold tk
      cases hf : front B (tkAll B s xs n) n with
      | none => exact h1
      | some i =>
        obtain ⟨j, hj⟩ := Option.isSome_iff_exists.mp h1
        obtain ⟨j', hj'⟩ := front_keep (by omega) _ i j hf hj
        simp only [hj']; rfl
    · exact h1
theorem tk_len {B : Nat → Nat} {xs : List Nat} {p : Nat} : (tk B xs p).length ≤ xs.length := by
  unfold tk
  split
  · rename_i i hi
    rw [List.length_eraseIdx_of_lt (front_lt hi)]; omega
  · exact Nat.le_refl _
theorem tkAll_len {B : Nat → Nat} {s : Nat} {xs : List Nat} : ∀ n, (tkAll B s xs n).length ≤ xs.length := by
  intro n
  induction n with
  | zero => exact Nat.le_refl _
  | succ n ih =>
    rw [tkAll_s]
    split
    · exact Nat.le_trans tk_len ih
    · exact ih
theorem tkAll_lt {B : Nat → Nat} {s : Nat} {xs : List Nat} {q : Nat} (hs : s.testBit q = true) (hq : (front B xs q).isSome = true) : ∀ n, q < n → (tkAll B s xs n).length < xs.length := by
  intro n
  induction n with
  | zero => intro h; omega
  | succ n ih =>
    intro hn
    rw [tkAll_s]
    by_cases e : q = n
    · subst e
      rw [if_pos hs]
      obtain ⟨i, hi⟩ := Option.isSome_iff_exists.mp (tkAll_front (s := s) hq q (Nat.le_refl _))
      have h1 := tkAll_len (B := B) (s := s) (xs := xs) q
      have h2 := front_lt hi
      unfold tk
      rw [hi]
      show (List.eraseIdx _ i).length < _
      rw [List.length_eraseIdx_of_lt h2]; omega
    · have := ih (by omega)
      split
      · exact Nat.lt_of_le_of_lt tk_len this
      · exact this
section MOD
variable {l : Launch} {W : xW} {dep : Nat} {d : xD} {bs : List Nat} {σ : St} {x y z w : Int32} {n n2 k : Nat} {fb : Nat → Nat}
theorem s_X12_layerO (hx : hN x = none) : mSpecI l W mX12_layer (dep + 2) [.ref (xad W 240), .int x, .int y] d (fun r d' => r = -2 ∧ d' = d) := by
  refine m_spec RX12 [some (.ref (xad W 240)), some (.int x), some (.int y), none, none, none, none] rfl (by decide +kernel) rfl rfl (fun K hR => ?_)
  refine m_iload_n dX12_layer_0 rfl ?_
  refine m_callSIp (s_X12_isHeapO hx) cs_X12_172 dX12_layer_1 ?_
  refine m_if_ne 10 dX12_layer_4 (by decide) (fun c4 => by exfalso; exact c4 rfl) (fun c4 => ?_)
  refine m_bipush (v := -2) dX12_layer_7 (by decide) ?_
  exact m_iret (ty := .int) hR dX12_layer_9 (⟨rfl, rfl⟩)
theorem s_X12_layerN (hy : y < -1) (hx : hN x = some n) : mSpecI l W mX12_layer (dep + 2) [.ref (xad W 240), .int x, .int y] d (fun r d' => r = -3 ∧ d' = d) := by
  refine m_spec RX12 [some (.ref (xad W 240)), some (.int x), some (.int y), none, none, none, none] rfl (by decide +kernel) rfl rfl (fun K hR => ?_)
  refine m_iload_n dX12_layer_0 rfl ?_
  refine m_callSIp (s_X12_isHeap hx) cs_X12_172 dX12_layer_1 ?_
  refine m_if_ne 10 dX12_layer_4 (by decide) (fun c4 => ?_) (fun c4 => by exfalso; exact c4 (by decide))
  refine m_iload_n dX12_layer_10 rfl ?_
  refine m_iconst (v := -1) dX12_layer_11 (by decide) ?_
  refine m_icmp_ge 18 dX12_layer_12 (by decide) (fun c12 => by exfalso; exact absurd hy (Int32.not_lt.mpr c12)) (fun c12 => ?_)
  refine m_bipush (v := -3) dX12_layer_15 (by decide) ?_
  exact m_iret (ty := .int) hR dX12_layer_17 (⟨rfl, rfl⟩)
/-- one layer: from 51 on to 155 -/
theorem layer_round {K : xK} {xs : List Nat} {off1 : Nat → Bool} {t : Nat} {d1 : xD} {o6 : Option Value} {y : Int32} (hn : n < 4) (hs : moSt d1 σ) (hxs : σ.2.2 n = xs) (ha : arrB d1 246 xs) (hoff : offIs d1 xs.length off1) (kk : ∀ off2 d2, live off2 xs 0 = tkAll (bw σ.1 σ.2.1) (fbits (bw σ.1 σ.2.1) (live off1 xs 0) σ.1) (live off1 xs 0) σ.1 → offIs d2 xs.length off2 → chg [249] d1 d2 → mG W K cX12_layer RX12 (dep + 4) d2 155 [some (.ref (xad W 240)), some (.int (nI n)), some (.int y), some (.int (nI (tkAll (bw σ.1 σ.2.1) (fbits (bw σ.1 σ.2.1) (live off1 xs 0) σ.1) (live off1 xs 0) σ.1).length)), some (.int (nI t)), some (.int (nI (fbits (bw σ.1 σ.2.1) (live off1 xs 0) σ.1))), some (.int (nI 6))] []) (o5 : Option Value) : mG W K cX12_layer RX12 (dep + 4) d1 51 [some (.ref (xad W 240)), some (.int (nI n)), some (.int y), some (.int (nI (live off1 xs 0).length)), some (.int (nI t)), o5, o6] [] := by
  have hl := hs.1
  have hk := hl.2.2.2.1
  have hn1 := hs.2 n hn
  rw [hxs] at hn1
  have hx := hn1.2.2.2
  have hx6 : ∀ x ∈ xs, x < 6 := fun x h => by have := hx x h; omega
  have h24 := hn1.2.1
  have hI : isI W 246 48 := ⟨by decide, by decide, fun _ => rfl⟩
  have hZ : isZ W 249 48 := ⟨by decide, by decide, fun _ => rfl⟩
  have hly : ∀ x ∈ live off1 xs 0, x < σ.1 := fun x h => hx x (live_mem xs 0 x h)
  have e6 := fbits_k hl.2.2 hly (6 - σ.1) (by omega)
  rw [show σ.1 + (6 - σ.1) = 6 by omega] at e6
  have e7 := tkAll_k (s := fbits (bw σ.1 σ.2.1) (live off1 xs 0) σ.1) hl.2.2 hly (6 - σ.1) (by omega)
  rw [show σ.1 + (6 - σ.1) = 6 by omega] at e7
  rw [← e7, ← e6] at kk
  generalize hys : live off1 xs 0 = ys at *
  have h64 : fbits (bw σ.1 σ.2.1) ys 6 < 64 := fbits_lt _ _ 6 (Nat.le_refl _)
  have hlen : ys.length ≤ 24 := by rw [← hys]; exact Nat.le_trans (live_len xs 0) h24
  have loop2 : ∀ p, p ≤ 6 → ∀ off2 d2, live off2 xs 0 = tkAll (bw σ.1 σ.2.1) (fbits (bw σ.1 σ.2.1) ys 6) ys p → offIs d2 xs.length off2 → chg [249] d1 d2 → mG W K cX12_layer RX12 (dep + 4) d2 106 [some (.ref (xad W 240)), some (.int (nI n)), some (.int y), some (.int (nI (tkAll (bw σ.1 σ.2.1) (fbits (bw σ.1 σ.2.1) ys 6) ys p).length)), some (.int (nI t)), some (.int (nI (fbits (bw σ.1 σ.2.1) ys 6))), some (.int (nI p))] [] := x_up _ (fun p hp ih off2 d2 g1 g2 g3 => by
    have hl2 := hl.fr g3 (by simp) (by simp)
    by_cases hp6 : p < 6
    · by_cases hb : (fbits (bw σ.1 σ.2.1) ys 6).testBit p = true
      · have hfs : (front (bw σ.1 σ.2.1) ys p).isSome = true := by
          rw [fbits_tb] at hb
          simpa [hp6] using hb
        obtain ⟨j, hj⟩ := Option.isSome_iff_exists.mp (tkAll_front (s := fbits (bw σ.1 σ.2.1) ys 6) hfs p (Nat.le_refl _))
        rcases fo_bw (off := off2) hl.2.2 hp6 hx with ⟨f1, f2⟩ | ⟨m, j', f1, f2, f3, f4, f5⟩
        · rw [g1, hj] at f2; cases f2
        · rw [g1] at f4 f5
          have hjl := front_lt f4
          have hnx : tkAll (bw σ.1 σ.2.1) (fbits (bw σ.1 σ.2.1) ys 6) ys (p + 1) = (tkAll (bw σ.1 σ.2.1) (fbits (bw σ.1 σ.2.1) ys 6) ys p).eraseIdx j' := by
            rw [tkAll_s, if_pos hb]
            unfold tk
            rw [f4]
          have ih2 := ih hp6 (setOff off2 m) _ (by rw [f5, hnx]) g2.set (g3.se (by simp))
          rw [hnx, List.length_eraseIdx_of_lt hjl] at ih2
          obtain ⟨L, hL⟩ : ∃ L, (tkAll (bw σ.1 σ.2.1) (fbits (bw σ.1 σ.2.1) ys 6) ys p).length = L + 1 := ⟨_, (Nat.succ_pred_eq_of_pos (by omega)).symm⟩
          rw [hL] at ih2 ⊢
          refine m_iload dX12_layer_106 rfl ?_
          refine m_bipushN 6 dX12_layer_108 (by decide) ?_
          first | refine m_icmp_geN 155 dX12_layer_110 (by decide) (by omega) (by omega) (fun c110 => by exfalso; omega) (fun c110 => ?_) | refine m_icmp_ge 155 dX12_layer_110 (by decide) (fun c110 => by exfalso; omega) (fun c110 => ?_)
          refine m_iload dX12_layer_113 rfl ?_
          refine m_iload dX12_layer_115 rfl ?_
          refine m_ishr dX12_layer_117 ?_
          refine m_iconstN 1 dX12_layer_118 (by decide) ?_
          refine m_iand dX12_layer_119 ?_
          refine m_eqi ((by rw [nI_bit (by omega) (by omega), hb]; rfl : _ = nI 1)) ?_
          refine m_iconstN 1 dX12_layer_120 (by decide) ?_
          first | refine m_icmp_neN 149 dX12_layer_121 (by decide) (by omega) (by omega) (fun c121 => by exfalso; exact absurd rfl c121) (fun c121 => ?_) | refine m_icmp_ne 149 dX12_layer_121 (by decide) (fun c121 => by exfalso; exact absurd rfl c121) (fun c121 => ?_)
          refine m_aload_n dX12_layer_124 rfl ?_
          refine m_get fl_X12_38 (by decide) rfl rfl dX12_layer_125 ?_
          refine m_aload_n dX12_layer_128 rfl ?_
          refine m_aload_n dX12_layer_129 rfl ?_
          refine m_get fl_X12_29 (by decide) rfl rfl dX12_layer_130 ?_
          refine m_aload_n dX12_layer_133 rfl ?_
          refine m_get fl_X12_17 (by decide) rfl rfl dX12_layer_134 ?_
          refine m_iload_n dX12_layer_137 rfl ?_
          refine m_iald (by first | exact ⟨by decide, by decide, fun _ => rfl⟩ | exact isI_arr _ (by omega) | exact isI_mv _ (by omega) | exact isI_ne _ (by omega)) (by omega) dX12_layer_138 ?_
          refine m_eqi ((by rw [(g3 242 (by simp)).1]; exact hn1.1 : _ = nI xs.length)) ?_
          refine m_iload dX12_layer_139 rfl ?_
          refine m_callVIp (s_X12_firstOf hI hl2 hx6 (by omega) (ha.fr g3 (by simp)) g2 hp6) cv_X12_175 dX12_layer_141 ?_
          refine m_eqi ((by rw [f1]; rfl : _ = nI m)) ?_
          refine m_iconstN 1 dX12_layer_144 (by decide) ?_
          refine m_zast hZ (by omega) (by decide +kernel) dX12_layer_145 ?_
          first | refine m_iincM dX12_layer_146 (by decide) rfl rfl ?_ | refine m_iinc dX12_layer_146 rfl rfl ?_
          first | refine m_iincN 1 dX12_layer_149 (by decide) rfl rfl ?_ | refine m_iinc dX12_layer_149 rfl rfl ?_
          refine m_goto 106 dX12_layer_152 (by decide) ?_
          exact ih2
      · have ih2 := ih hp6 off2 d2 (by rw [tkAll_s, if_neg hb]; exact g1) g2 g3
        rw [tkAll_s, if_neg hb] at ih2
        refine m_iload dX12_layer_106 rfl ?_
        refine m_bipushN 6 dX12_layer_108 (by decide) ?_
        first | refine m_icmp_geN 155 dX12_layer_110 (by decide) (by omega) (by omega) (fun c110 => by exfalso; omega) (fun c110 => ?_) | refine m_icmp_ge 155 dX12_layer_110 (by decide) (fun c110 => by exfalso; omega) (fun c110 => ?_)
        refine m_iload dX12_layer_113 rfl ?_
        refine m_iload dX12_layer_115 rfl ?_
        refine m_ishr dX12_layer_117 ?_
        refine m_iconstN 1 dX12_layer_118 (by decide) ?_
        refine m_iand dX12_layer_119 ?_
        refine m_eqi ((by rw [nI_bit (by omega) (by omega), Bool.eq_false_iff.mpr hb]; rfl : _ = nI 0)) ?_
        refine m_iconstN 1 dX12_layer_120 (by decide) ?_
        first | refine m_icmp_neN 149 dX12_layer_121 (by decide) (by omega) (by omega) (fun c121 => ?_) (fun c121 => by exfalso; omega) | refine m_icmp_ne 149 dX12_layer_121 (by decide) (fun c121 => ?_) (fun c121 => by exfalso; omega)
        first | refine m_iincN 1 dX12_layer_149 (by decide) rfl rfl ?_ | refine m_iinc dX12_layer_149 rfl rfl ?_
        refine m_goto 106 dX12_layer_152 (by decide) ?_
        exact ih2
    · have hp2 : p = 6 := by omega
      subst hp2
      refine m_iload dX12_layer_106 rfl ?_
      refine m_bipushN 6 dX12_layer_108 (by decide) ?_
      first | refine m_icmp_geN 155 dX12_layer_110 (by decide) (by omega) (by omega) (fun c110 => ?_) (fun c110 => by exfalso; omega) | refine m_icmp_ge 155 dX12_layer_110 (by decide) (fun c110 => ?_) (fun c110 => by exfalso; omega)
      exact kk off2 d2 g1 g2 g3
    )
  have loop1 : ∀ p, p ≤ 6 → mG W K cX12_layer RX12 (dep + 4) d1 57 [some (.ref (xad W 240)), some (.int (nI n)), some (.int y), some (.int (nI ys.length)), some (.int (nI t)), some (.int (nI (fbits (bw σ.1 σ.2.1) ys p))), some (.int (nI p))] [] := x_up _ (fun p hp ih => by
    by_cases hp6 : p < 6
    · have ih2 := ih hp6
      rw [fbits_s] at ih2
      rcases fo_bw (off := off1) hl.2.2 hp6 hx with ⟨f1, f2⟩ | ⟨m, j', f1, f2, f3, f4, f5⟩
      · rw [hys] at f2
        rw [f2] at ih2
        refine m_iload dX12_layer_57 rfl ?_
        refine m_bipushN 6 dX12_layer_59 (by decide) ?_
        first | refine m_icmp_geN 103 dX12_layer_61 (by decide) (by omega) (by omega) (fun c61 => by exfalso; omega) (fun c61 => ?_) | refine m_icmp_ge 103 dX12_layer_61 (by decide) (fun c61 => by exfalso; omega) (fun c61 => ?_)
        refine m_iload dX12_layer_64 rfl ?_
        refine m_aload_n dX12_layer_66 rfl ?_
        refine m_aload_n dX12_layer_67 rfl ?_
        refine m_get fl_X12_29 (by decide) rfl rfl dX12_layer_68 ?_
        refine m_aload_n dX12_layer_71 rfl ?_
        refine m_get fl_X12_17 (by decide) rfl rfl dX12_layer_72 ?_
        refine m_iload_n dX12_layer_75 rfl ?_
        refine m_iald (by first | exact ⟨by decide, by decide, fun _ => rfl⟩ | exact isI_arr _ (by omega) | exact isI_mv _ (by omega) | exact isI_ne _ (by omega)) (by omega) dX12_layer_76 ?_
        refine m_eqi (hn1.1) ?_
        refine m_iload dX12_layer_77 rfl ?_
        refine m_callVIp (s_X12_firstOf hI hl hx6 (by omega) ha hoff hp6) cv_X12_175 dX12_layer_79 ?_
        refine m_eqi ((by rw [f1]; rfl : _ = (-1 : Int32))) ?_
        refine m_iconst (v := -1) dX12_layer_82 (by decide) ?_
        refine m_icmp_eq 93 dX12_layer_83 (by decide) (fun c83 => ?_) (fun c83 => by exfalso; exact c83 rfl)
        refine m_iconstN 0 dX12_layer_93 (by decide) ?_
        refine m_ior dX12_layer_94 ?_
        refine m_eqi ((by rw [nI_or, Nat.or_zero] : _ = nI (fbits (bw σ.1 σ.2.1) ys p))) ?_
        refine m_istore dX12_layer_95 (Nat.le_of_ble_eq_true rfl) rfl ?_
        first | refine m_iincN 1 dX12_layer_97 (by decide) rfl rfl ?_ | refine m_iinc dX12_layer_97 rfl rfl ?_
        refine m_goto 57 dX12_layer_100 (by decide) ?_
        exact ih2
      · rw [hys] at f4
        rw [f4] at ih2
        refine m_iload dX12_layer_57 rfl ?_
        refine m_bipushN 6 dX12_layer_59 (by decide) ?_
        first | refine m_icmp_geN 103 dX12_layer_61 (by decide) (by omega) (by omega) (fun c61 => by exfalso; omega) (fun c61 => ?_) | refine m_icmp_ge 103 dX12_layer_61 (by decide) (fun c61 => by exfalso; omega) (fun c61 => ?_)
        refine m_iload dX12_layer_64 rfl ?_
        refine m_aload_n dX12_layer_66 rfl ?_
        refine m_aload_n dX12_layer_67 rfl ?_
        refine m_get fl_X12_29 (by decide) rfl rfl dX12_layer_68 ?_
        refine m_aload_n dX12_layer_71 rfl ?_
        refine m_get fl_X12_17 (by decide) rfl rfl dX12_layer_72 ?_
        refine m_iload_n dX12_layer_75 rfl ?_
        refine m_iald (by first | exact ⟨by decide, by decide, fun _ => rfl⟩ | exact isI_arr _ (by omega) | exact isI_mv _ (by omega) | exact isI_ne _ (by omega)) (by omega) dX12_layer_76 ?_
        refine m_eqi (hn1.1) ?_
        refine m_iload dX12_layer_77 rfl ?_
        refine m_callVIp (s_X12_firstOf hI hl hx6 (by omega) ha hoff hp6) cv_X12_175 dX12_layer_79 ?_
        refine m_eqi ((by rw [f1]; rfl : _ = nI m)) ?_
        refine m_iconst (v := -1) dX12_layer_82 (by decide) ?_
        refine m_icmp_eq 93 dX12_layer_83 (by decide) (fun c83 => by exfalso; exact absurd c83 (nI_m1 (by omega))) (fun c83 => ?_)
        refine m_iconstN 1 dX12_layer_86 (by decide) ?_
        refine m_iload dX12_layer_87 rfl ?_
        refine m_ishl dX12_layer_89 ?_
        refine m_eqi (nI_sb1 p hp6) ?_
        refine m_goto 94 dX12_layer_90 (by decide) ?_
        refine m_ior dX12_layer_94 ?_
        refine m_eqi (nI_or _ _) ?_
        refine m_istore dX12_layer_95 (Nat.le_of_ble_eq_true rfl) rfl ?_
        first | refine m_iincN 1 dX12_layer_97 (by decide) rfl rfl ?_ | refine m_iinc dX12_layer_97 rfl rfl ?_
        refine m_goto 57 dX12_layer_100 (by decide) ?_
        exact ih2
    · have hp2 : p = 6 := by omega
      subst hp2
      refine m_iload dX12_layer_57 rfl ?_
      refine m_bipushN 6 dX12_layer_59 (by decide) ?_
      first | refine m_icmp_geN 103 dX12_layer_61 (by decide) (by omega) (by omega) (fun c61 => ?_) (fun c61 => by exfalso; omega) | refine m_icmp_ge 103 dX12_layer_61 (by decide) (fun c61 => ?_) (fun c61 => by exfalso; omega)
      refine m_iconstN 0 dX12_layer_103 (by decide) ?_
      refine m_istore dX12_layer_104 (Nat.le_of_ble_eq_true rfl) rfl ?_
      exact loop2 0 (by decide) off1 d1 hys hoff chg.rf
    )
  refine m_iconstN 0 dX12_layer_51 (by decide) ?_
  refine m_istore dX12_layer_52 (Nat.le_of_ble_eq_true rfl) rfl ?_
  refine m_iconstN 0 dX12_layer_54 (by decide) ?_
  refine m_istore dX12_layer_55 (Nat.le_of_ble_eq_true rfl) rfl ?_
  exact loop1 0 (by decide)
theorem s_X12_layer {m : Nat} (hm : m < 2 ^ 31) (hx : hN x = some n) (hs : moSt d σ) : mSpecI l W mX12_layer (dep + 4) [.ref (xad W 240), .int x, .int (nI m)] d (fun r d' => r = optI ((layF (bw σ.1 σ.2.1) σ.1 24 (σ.2.2 n))[m]?) ∧ chg [246, 249] d d') := by
  obtain ⟨hn, rfl⟩ := hN_some hx
  have hk := hs.1.2.2.2.1
  have h24 := (hs.2 n hn).2.1
  have hxk := (hs.2 n hn).2.2.2
  have hm1 : ¬ nI m = -1 := nI_m1 hm
  generalize hxs : σ.2.2 n = xs at *
  refine m_spec RX12 [some (.ref (xad W 240)), some (.int (nI n)), some (.int (nI m)), none, none, none, none] rfl (by decide +kernel) rfl rfl (fun K hR => ?_)
  have outer : ∀ N off1 t d1 o5 o6, (live off1 xs 0).length = N → t + N ≤ 24 → t ≤ m → (layF (bw σ.1 σ.2.1) σ.1 24 xs)[m]? = (layF (bw σ.1 σ.2.1) σ.1 (24 - t) (live off1 xs 0))[m - t]? → offIs d1 xs.length off1 → arrB d1 246 xs → chg [246, 249] d d1 → mG W K cX12_layer RX12 (dep + 4) d1 47 [some (.ref (xad W 240)), some (.int (nI n)), some (.int (nI m)), some (.int (nI N)), some (.int (nI t)), o5, o6] [] := by
    intro N
    induction N using Nat.strongRecOn with
    | _ N ihN =>
    intro off1 t d1 o5 o6 hlen hN htm heq h1 h2 h3
    have hs1 : moSt d1 σ := ⟨hs.1.fr h3 (by simp) (by simp), hs.2.fr h3 (by simp) (by simp)⟩
    by_cases h0 : N = 0
    · subst h0
      refine m_iload_n dX12_layer_47 rfl ?_
      first | refine m_if_leN 170 dX12_layer_48 (by decide) (by omega) (fun c48 => ?_) (fun c48 => by exfalso; omega) | refine m_if_le 170 dX12_layer_48 (by decide) (fun c48 => ?_) (fun c48 => by exfalso; omega)
      refine m_iload_n dX12_layer_170 rfl ?_
      refine m_iconst (v := -1) dX12_layer_171 (by decide) ?_
      refine m_icmp_ne 180 dX12_layer_172 (by decide) (fun c172 => ?_) (fun c172 => by exfalso; exact c172 hm1)
      refine m_iconst (v := -1) dX12_layer_180 (by decide) ?_
      exact m_iret (ty := .int) hR dX12_layer_181 (⟨by rw [heq, List.eq_nil_of_length_eq_zero hlen, layF_0]; rfl, h3⟩)
    · have hyn : live off1 xs 0 ≠ [] := fun z => by rw [z] at hlen; exact h0 hlen.symm
      obtain ⟨q, hq⟩ := leastL_ne ((bw_ok hs.1.2.2 hxk).sub (fun y hy => live_mem xs 0 y hy)) hyn
      obtain ⟨hq6, i, hqi⟩ := leastL_some hq
      have hqk : q < σ.1 := Nat.not_le.mp (fun z => by rw [front_big hs.1.2.2 z hq6 (fun x hx => hxk x (live_mem xs 0 x hx))] at hqi; cases hqi)
      have hlt := tkAll_lt (B := bw σ.1 σ.2.1) (s := fbits (bw σ.1 σ.2.1) (live off1 xs 0) σ.1) (q := q) (by rw [fbits_tb, hqi]; simp [hqk]) (by rw [hqi]; rfl) σ.1 hqk
      have h64 : fbits (bw σ.1 σ.2.1) (live off1 xs 0) σ.1 < 64 := fbits_lt _ _ _ hk
      rw [show 24 - t = (24 - (t + 1)) + 1 by omega, layF_s hyn] at heq
      subst hlen
      have hround := layer_round (W := W) (dep := dep) (K := K) (y := nI m) (t := t) hn hs1 hxs h2 h1 (o6 := o6) (fun off2 d2 k1 k2 k3 => by
        refine m_iload dX12_layer_155 rfl ?_
        refine m_iload_n dX12_layer_157 rfl ?_
        first | refine m_icmp_neN 164 dX12_layer_158 (by decide) (by omega) (by omega) (fun c158 => ?_) (fun c158 => ?_) | refine m_icmp_ne 164 dX12_layer_158 (by decide) (fun c158 => ?_) (fun c158 => ?_)
        · first | refine m_iincN 1 dX12_layer_164 (by decide) rfl rfl ?_ | refine m_iinc dX12_layer_164 rfl rfl ?_
          refine m_goto 47 dX12_layer_167 (by decide) ?_
          exact ihN _ hlt off2 (t + 1) d2 _ _ (by rw [k1]) (by omega) (by omega) (by rw [heq, k1, show m - t = (m - (t + 1)) + 1 by omega]; rfl) k2 (h2.fr k3 (by simp)) (h3.tr (k3.mono (by simp)))
        · refine m_iload dX12_layer_161 rfl ?_
          exact m_iret (ty := .int) hR dX12_layer_163 (⟨by rw [heq, show m - t = 0 by omega]; rfl, h3.tr (k3.mono (by simp))⟩)
        ) o5
      refine m_iload_n dX12_layer_47 rfl ?_
      first | refine m_if_leN 170 dX12_layer_48 (by decide) (by omega) (fun c48 => by exfalso; omega) (fun c48 => ?_) | refine m_if_le 170 dX12_layer_48 (by decide) (fun c48 => by exfalso; omega) (fun c48 => ?_)
      exact hround
  refine m_iload_n dX12_layer_0 rfl ?_
  refine m_callSIp (s_X12_isHeap hx) cs_X12_172 dX12_layer_1 ?_
  refine m_if_ne 10 dX12_layer_4 (by decide) (fun c4 => ?_) (fun c4 => by exfalso; exact c4 (by decide))
  refine m_iload_n dX12_layer_10 rfl ?_
  refine m_iconst (v := -1) dX12_layer_11 (by decide) ?_
  refine m_icmp_ge 18 dX12_layer_12 (by decide) (fun c12 => ?_) (fun c12 => by exfalso; exact c12 (Int32.le_iff_toInt_le.mpr (by rw [nI_toInt hm]; exact Int.le_trans (by decide) (Int.natCast_nonneg m))))
  refine m_aload_n dX12_layer_18 rfl ?_
  refine m_iload_n dX12_layer_19 rfl ?_
  refine m_aload_n dX12_layer_20 rfl ?_
  refine m_get fl_X12_29 (by decide) rfl rfl dX12_layer_21 ?_
  refine m_callVV (s_X12_take (o := 246) ⟨by decide, by decide, fun _ => rfl⟩ (by decide) hn hs) cv_X12_186 dX12_layer_24 (fun d24 h24 => ?_)
  rw [hxs] at h24
  refine m_aload_n dX12_layer_27 rfl ?_
  refine m_aload_n dX12_layer_28 rfl ?_
  refine m_get fl_X12_17 (by decide) rfl rfl dX12_layer_29 ?_
  refine m_iload_n dX12_layer_32 rfl ?_
  refine m_iald (by first | exact ⟨by decide, by decide, fun _ => rfl⟩ | exact isI_arr _ (by omega) | exact isI_mv _ (by omega) | exact isI_ne _ (by omega)) (by omega) dX12_layer_33 ?_
  refine m_eqi ((by rw [(h24.2 242 (by simp)).1, ← hxs]; exact (hs.2 n hn).1 : _ = nI xs.length)) ?_
  refine m_callVV (s_X12_putAllOn (n := xs.length) (by omega)) cv_X12_179 dX12_layer_34 (fun d34 h34 => ?_)
  refine m_aload_n dX12_layer_37 rfl ?_
  refine m_get fl_X12_17 (by decide) rfl rfl dX12_layer_38 ?_
  refine m_iload_n dX12_layer_41 rfl ?_
  refine m_iald (by first | exact ⟨by decide, by decide, fun _ => rfl⟩ | exact isI_arr _ (by omega) | exact isI_mv _ (by omega) | exact isI_ne _ (by omega)) (by omega) dX12_layer_42 ?_
  refine m_eqi ((by rw [(h34.2 242 (by simp)).1, (h24.2 242 (by simp)).1, ← hxs]; exact (hs.2 n hn).1 : _ = nI xs.length)) ?_
  refine m_istore_n dX12_layer_43 (Nat.le_of_ble_eq_true rfl) rfl ?_
  refine m_iconstN 0 dX12_layer_44 (by decide) ?_
  refine m_istore dX12_layer_45 (Nat.le_of_ble_eq_true rfl) rfl ?_
  exact outer xs.length (fun _ => false) 0 d34 _ _ (by rw [live_all xs 0 (fun _ _ _ => rfl)]) (by omega) (Nat.zero_le _) (by rw [live_all xs 0 (fun _ _ _ => rfl)]; rfl) h34.1 (h24.1.fr h34.2 (by simp)) ((h24.2.mono (by simp)).tr (h34.2.mono (by simp)))
theorem s_X12_layerM (hx : hN x = some n) (hs : moSt d σ) : mSpecI l W mX12_layer (dep + 4) [.ref (xad W 240), .int x, .int (-1)] d (fun r d' => r = nI (layF (bw σ.1 σ.2.1) σ.1 24 (σ.2.2 n)).length ∧ chg [246, 249] d d') := by
  obtain ⟨hn, rfl⟩ := hN_some hx
  have hk := hs.1.2.2.2.1
  have h24 := (hs.2 n hn).2.1
  have hxk := (hs.2 n hn).2.2.2
  generalize hxs : σ.2.2 n = xs at *
  refine m_spec RX12 [some (.ref (xad W 240)), some (.int (nI n)), some (.int (-1)), none, none, none, none] rfl (by decide +kernel) rfl rfl (fun K hR => ?_)
  have outer : ∀ N off1 t d1 o5 o6, (live off1 xs 0).length = N → t + N ≤ 24 → (layF (bw σ.1 σ.2.1) σ.1 24 xs).length = t + (layF (bw σ.1 σ.2.1) σ.1 (24 - t) (live off1 xs 0)).length → offIs d1 xs.length off1 → arrB d1 246 xs → chg [246, 249] d d1 → mG W K cX12_layer RX12 (dep + 4) d1 47 [some (.ref (xad W 240)), some (.int (nI n)), some (.int (-1)), some (.int (nI N)), some (.int (nI t)), o5, o6] [] := by
    intro N
    induction N using Nat.strongRecOn with
    | _ N ihN =>
    intro off1 t d1 o5 o6 hlen hN heq h1 h2 h3
    have hs1 : moSt d1 σ := ⟨hs.1.fr h3 (by simp) (by simp), hs.2.fr h3 (by simp) (by simp)⟩
    by_cases h0 : N = 0
    · subst h0
      refine m_iload_n dX12_layer_47 rfl ?_
      first | refine m_if_leN 170 dX12_layer_48 (by decide) (by omega) (fun c48 => ?_) (fun c48 => by exfalso; omega) | refine m_if_le 170 dX12_layer_48 (by decide) (fun c48 => ?_) (fun c48 => by exfalso; omega)
      refine m_iload_n dX12_layer_170 rfl ?_
      refine m_iconst (v := -1) dX12_layer_171 (by decide) ?_
      refine m_icmp_ne 180 dX12_layer_172 (by decide) (fun c172 => by exfalso; exact c172 rfl) (fun c172 => ?_)
      refine m_iload dX12_layer_175 rfl ?_
      refine m_goto 181 dX12_layer_177 (by decide) ?_
      exact m_iret (ty := .int) hR dX12_layer_181 (⟨by rw [heq, List.eq_nil_of_length_eq_zero hlen, layF_0]; rfl, h3⟩)
    · have hyn : live off1 xs 0 ≠ [] := fun z => by rw [z] at hlen; exact h0 hlen.symm
      obtain ⟨q, hq⟩ := leastL_ne ((bw_ok hs.1.2.2 hxk).sub (fun y hy => live_mem xs 0 y hy)) hyn
      obtain ⟨hq6, i, hqi⟩ := leastL_some hq
      have hqk : q < σ.1 := Nat.not_le.mp (fun z => by rw [front_big hs.1.2.2 z hq6 (fun x hx => hxk x (live_mem xs 0 x hx))] at hqi; cases hqi)
      have hlt := tkAll_lt (B := bw σ.1 σ.2.1) (s := fbits (bw σ.1 σ.2.1) (live off1 xs 0) σ.1) (q := q) (by rw [fbits_tb, hqi]; simp [hqk]) (by rw [hqi]; rfl) σ.1 hqk
      rw [show 24 - t = (24 - (t + 1)) + 1 by omega, layF_s hyn, List.length_cons] at heq
      subst hlen
      have hround := layer_round (W := W) (dep := dep) (K := K) (y := -1) (t := t) hn hs1 hxs h2 h1 (o6 := o6) (fun off2 d2 k1 k2 k3 => by
        refine m_iload dX12_layer_155 rfl ?_
        refine m_iload_n dX12_layer_157 rfl ?_
        refine m_icmp_ne 164 dX12_layer_158 (by decide) (fun c158 => ?_) (fun c158 => by exfalso; exact absurd (Decidable.not_not.mp c158) (nI_m1 (by omega)))
        first | refine m_iincN 1 dX12_layer_164 (by decide) rfl rfl ?_ | refine m_iinc dX12_layer_164 rfl rfl ?_
        refine m_goto 47 dX12_layer_167 (by decide) ?_
        exact ihN _ hlt off2 (t + 1) d2 _ _ (by rw [k1]) (by omega) (by rw [heq, k1]; omega) k2 (h2.fr k3 (by simp)) (h3.tr (k3.mono (by simp)))
        ) o5
      refine m_iload_n dX12_layer_47 rfl ?_
      first | refine m_if_leN 170 dX12_layer_48 (by decide) (by omega) (fun c48 => by exfalso; omega) (fun c48 => ?_) | refine m_if_le 170 dX12_layer_48 (by decide) (fun c48 => by exfalso; omega) (fun c48 => ?_)
      exact hround
  refine m_iload_n dX12_layer_0 rfl ?_
  refine m_callSIp (s_X12_isHeap hx) cs_X12_172 dX12_layer_1 ?_
  refine m_if_ne 10 dX12_layer_4 (by decide) (fun c4 => ?_) (fun c4 => by exfalso; exact c4 (by decide))
  refine m_iload_n dX12_layer_10 rfl ?_
  refine m_iconst (v := -1) dX12_layer_11 (by decide) ?_
  refine m_icmp_ge 18 dX12_layer_12 (by decide) (fun c12 => ?_) (fun c12 => by exfalso; exact c12 (by decide))
  refine m_aload_n dX12_layer_18 rfl ?_
  refine m_iload_n dX12_layer_19 rfl ?_
  refine m_aload_n dX12_layer_20 rfl ?_
  refine m_get fl_X12_29 (by decide) rfl rfl dX12_layer_21 ?_
  refine m_callVV (s_X12_take (o := 246) ⟨by decide, by decide, fun _ => rfl⟩ (by decide) hn hs) cv_X12_186 dX12_layer_24 (fun d24 h24 => ?_)
  rw [hxs] at h24
  refine m_aload_n dX12_layer_27 rfl ?_
  refine m_aload_n dX12_layer_28 rfl ?_
  refine m_get fl_X12_17 (by decide) rfl rfl dX12_layer_29 ?_
  refine m_iload_n dX12_layer_32 rfl ?_
  refine m_iald (by first | exact ⟨by decide, by decide, fun _ => rfl⟩ | exact isI_arr _ (by omega) | exact isI_mv _ (by omega) | exact isI_ne _ (by omega)) (by omega) dX12_layer_33 ?_
  refine m_eqi ((by rw [(h24.2 242 (by simp)).1, ← hxs]; exact (hs.2 n hn).1 : _ = nI xs.length)) ?_
  refine m_callVV (s_X12_putAllOn (n := xs.length) (by omega)) cv_X12_179 dX12_layer_34 (fun d34 h34 => ?_)
  refine m_aload_n dX12_layer_37 rfl ?_
  refine m_get fl_X12_17 (by decide) rfl rfl dX12_layer_38 ?_
  refine m_iload_n dX12_layer_41 rfl ?_
  refine m_iald (by first | exact ⟨by decide, by decide, fun _ => rfl⟩ | exact isI_arr _ (by omega) | exact isI_mv _ (by omega) | exact isI_ne _ (by omega)) (by omega) dX12_layer_42 ?_
  refine m_eqi ((by rw [(h34.2 242 (by simp)).1, (h24.2 242 (by simp)).1, ← hxs]; exact (hs.2 n hn).1 : _ = nI xs.length)) ?_
  refine m_istore_n dX12_layer_43 (Nat.le_of_ble_eq_true rfl) rfl ?_
  refine m_iconstN 0 dX12_layer_44 (by decide) ?_
  refine m_istore dX12_layer_45 (Nat.le_of_ble_eq_true rfl) rfl ?_
  exact outer xs.length (fun _ => false) 0 d34 _ _ (by rw [live_all xs 0 (fun _ _ _ => rfl)]) (by omega) (by rw [live_all xs 0 (fun _ _ _ => rfl)]; exact (Nat.zero_add _).symm) h34.1 (h24.1.fr h34.2 (by simp)) ((h24.2.mono (by simp)).tr (h34.2.mono (by simp)))
end MOD
