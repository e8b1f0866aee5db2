/-! class SwapSteps: told -/
abbrev St : Type := Nat × (Nat → Nat) × (Nat → List Nat)
def stIs (d : xD) (σ : St) : Prop := letIs d σ.1 σ.2.1 ∧ hpIs d σ.1 σ.2.2
def doF (bs : List Nat) (σ : St) (t : Nat × Nat × Nat × Nat) : St := if t.1 = 0 then (σ.1, setFB σ.2.1 t.2.1 t.2.2.1 true, σ.2.2) else if t.1 = 1 then (σ.1, setFB σ.2.1 t.2.1 t.2.2.1 false, σ.2.2) else if t.1 = 2 then (t.2.1, fun _ => 0, fun _ => []) else (σ.1, σ.2.1, fun j => if j = t.2.1 then wrd bs t.2.2.1 (t.2.2.2 - t.2.2.1) else σ.2.2 j)
/-- a line that can be done with kn letters -/
def okL (bs : List Nat) (kn : Nat) (t : Nat × Nat × Nat × Nat) : Prop := (∃ a b, (t = (0, a, b, 0) ∨ t = (1, a, b, 0)) ∧ a < kn ∧ b < kn ∧ a ≠ b) ∨ (∃ n, t = (2, n, 0, 0) ∧ 1 ≤ n ∧ n ≤ 6) ∨ ∃ hn p q, t = (3, hn, p, q) ∧ hn < 4 ∧ p ≤ q ∧ q ≤ bs.length ∧ q - p ≤ 24 ∧ ∀ i, i < q → p ≤ i → 97 ≤ bs.getD i 0 ∧ bs.getD i 0 - 97 < kn
def nxk (kn : Nat) (t : Nat × Nat × Nat × Nat) : Nat := if t.1 = 2 then t.2.1 else kn
def okLs (bs : List Nat) : Nat → List (Nat × Nat × Nat × Nat) → Prop
  | _, [] => True
  | kn, t :: ts => okL bs kn t ∧ okLs bs (nxk kn t) ts
theorem okLs_snoc {bs : List Nat} {t : Nat × Nat × Nat × Nat} : ∀ (ls : List (Nat × Nat × Nat × Nat)) (k0 : Nat), okLs bs k0 ls → okL bs (ls.foldl nxk k0) t → okLs bs k0 (ls ++ [t])
  | [], _, _, h => ⟨h, trivial⟩
  | _ :: ls, _, h1, h => ⟨h1.1, okLs_snoc ls _ h1.2 h⟩
theorem rdP_ok {bs : List Nat} {e kn kind : Nat} {t : Nat × Nat × Nat × Nat} (hk : kind = 0 ∨ kind = 1) (he : e ≤ bs.length) (h : (rdP bs e kn kind).1 = some t) : okL bs kn t ∧ (rdP bs e kn kind).2.2.2 = nxk kn t := by
  unfold rdP at h ⊢
  dsimp only at h ⊢
  split at h
  next hc =>
    have hof := of_decide_eq_true hc.2.1
    have o1 := hof (tkS bs e) (by omega) (Nat.le_refl _)
    have o2 := hof (tkS bs e + 1) (by omega) (by omega)
    cases h
    refine ⟨Or.inl ⟨_, _, ?_, o1.2, o2.2, by omega⟩, ?_⟩
    · rcases hk with rfl | rfl
      · exact Or.inl rfl
      · exact Or.inr rfl
    · unfold nxk
      rw [if_neg (show ¬ kind = 2 by omega)]
  next => cases h
theorem rdL_ok {bs : List Nat} {e kn : Nat} {t : Nat × Nat × Nat × Nat} (h : (rdL bs e kn).1 = some t) : okL bs kn t ∧ (rdL bs e kn).2.2.2 = nxk kn t := by
  by_cases hc : isN bs (tkS bs e) (tkE bs (tkS bs e)) = true ∧ 1 ≤ bs.getD (tkS bs e) 0 - 48 ∧ bs.getD (tkS bs e) 0 - 48 ≤ 6
  · rw [rdL_1 hc] at h ⊢
    cases h
    exact ⟨Or.inr (Or.inl ⟨_, rfl, hc.2⟩), rfl⟩
  · rw [rdL_0 hc] at h
    cases h
theorem rdW_ok {bs : List Nat} {e kn hp : Nat} {t : Nat × Nat × Nat × Nat} (hh : hp < 4) (he : e ≤ bs.length) (h : (rdW bs e kn hp).1 = some t) : okL bs kn t ∧ (rdW bs e kn hp).2.2.2 = nxk kn t := by
  have hS := runE_le (fun b => decide (b = 32)) bs he
  have hE := tkE_le (bs := bs) (q := tkS bs e) hS.2
  by_cases hW : isW bs (tkS bs e) (tkE bs (tkS bs e)) 5 = true
  · rw [rdW_1 hW] at h ⊢
    cases h
    exact ⟨Or.inr (Or.inr ⟨_, _, _, rfl, hh, Nat.le_refl _, hS.2, by omega, fun i h1 h2 => by omega⟩), rfl⟩
  · by_cases hc : 1 ≤ tkE bs (tkS bs e) - tkS bs e ∧ tkE bs (tkS bs e) - tkS bs e ≤ 24 ∧ ofL bs (tkS bs e) (tkE bs (tkS bs e)) kn = true
    · rw [rdW_2 hW hc] at h ⊢
      cases h
      exact ⟨Or.inr (Or.inr ⟨_, _, _, rfl, hh, hE.1, hE.2, hc.2.1, of_decide_eq_true hc.2.2⟩), rfl⟩
    · rw [rdW_0 hW hc] at h
      cases h
theorem rdH_ok {bs : List Nat} {e kn : Nat} {t : Nat × Nat × Nat × Nat} (he : e ≤ bs.length) (h : (rdH bs e kn).1 = some t) : okL bs kn t ∧ (rdH bs e kn).2.2.2 = nxk kn t := by
  have hS := runE_le (fun b => decide (b = 32)) bs he
  have hE := tkE_le (bs := bs) (q := tkS bs e) hS.2
  have hS2 := runE_le (fun b => decide (b = 32)) bs hE.2
  have hE2 := tkE_le (bs := bs) (q := tkS bs (tkE bs (tkS bs e))) hS2.2
  by_cases hc : isN bs (tkS bs e) (tkE bs (tkS bs e)) = true ∧ bs.getD (tkS bs e) 0 - 48 < 4
  · rw [rdH_1 hc] at h ⊢
    by_cases hW : isW bs (tkS bs (tkE bs (tkS bs e))) (tkE bs (tkS bs (tkE bs (tkS bs e)))) 4 = true
    · rw [rdI_1 hW] at h ⊢
      exact rdW_ok hc.2 hE2.2 h
    · rw [rdI_0 hW] at h
      cases h
  · rw [rdH_0 hc] at h
    cases h
theorem rdLine_ok {bs : List Nat} {e kn : Nat} {t : Nat × Nat × Nat × Nat} (he : e ≤ bs.length) (h : (rdLine bs e kn).1 = some t) : okL bs kn t ∧ (rdLine bs e kn).2.2.2 = nxk kn t := by
  have hS := runE_le (fun b => decide (b = 32)) bs he
  have hE := tkE_le (bs := bs) (q := tkS bs e) hS.2
  unfold rdLine at h ⊢
  by_cases h0 : isW bs (tkS bs e) (tkE bs (tkS bs e)) 0 = true
  · rw [rdG_0 h0] at h ⊢
    exact rdP_ok (Or.inl rfl) hE.2 h
  · by_cases h1 : isW bs (tkS bs e) (tkE bs (tkS bs e)) 1 = true
    · rw [rdG_1 h0 h1] at h ⊢
      exact rdP_ok (Or.inr rfl) hE.2 h
    · by_cases h2 : isW bs (tkS bs e) (tkE bs (tkS bs e)) 2 = true
      · rw [rdG_2 h0 h1 h2] at h ⊢
        exact rdL_ok h
      · by_cases h3 : isW bs (tkS bs e) (tkE bs (tkS bs e)) 3 = true
        · rw [rdG_3 h0 h1 h2 h3] at h ⊢
          exact rdH_ok hE.2 h
        · rw [rdG_4 h0 h1 h2 h3] at h
          cases h
theorem tk2 {bs : List Nat} {e : Nat} (he : e ≤ bs.length) : tkE bs (tkS bs e) ≤ bs.length := (tkE_le (runE_le (fun b => decide (b = 32)) bs he).2).2
theorem rdLine_le {bs : List Nat} {e kn : Nat} (he : e ≤ bs.length) : (rdLine bs e kn).2.2.1 ≤ bs.length := by
  have h1 := tk2 he
  have h2 := tk2 h1
  have h3 := tk2 h2
  have h4 := tk2 h3
  unfold rdLine
  by_cases c0 : isW bs (tkS bs e) (tkE bs (tkS bs e)) 0 = true
  · rw [rdG_0 c0]; exact h2
  · by_cases c1 : isW bs (tkS bs e) (tkE bs (tkS bs e)) 1 = true
    · rw [rdG_1 c0 c1]; exact h2
    · by_cases c2 : isW bs (tkS bs e) (tkE bs (tkS bs e)) 2 = true
      · rw [rdG_2 c0 c1 c2]; unfold rdL; split <;> exact h2
      · by_cases c3 : isW bs (tkS bs e) (tkE bs (tkS bs e)) 3 = true
        · rw [rdG_3 c0 c1 c2 c3]
          unfold rdH
          split
          · unfold rdI
            split
            · unfold rdW
              split
              · exact h4
              · split <;> exact h4
            · exact h3
          · exact h2
        · rw [rdG_4 c0 c1 c2 c3]; exact h1
theorem rdF_ok {bs : List Nat} {k0 : Nat} : ∀ (n s e kn : Nat) (ls : List (Nat × Nat × Nat × Nat)), e ≤ bs.length → okLs bs k0 ls → ls.foldl nxk k0 = kn → (rdF bs n s e kn ls).1 = none → okLs bs k0 (rdF bs n s e kn ls).2 := by
  intro n
  induction n with
  | zero => intro s e kn ls _ _ _ h; cases h
  | succ n ih =>
    intro s e kn ls he h1 h2 h
    cases hR : (rdLine bs e kn).1 with
    | none =>
      have e1 : rdF bs (n + 1) s e kn ls = (some (rdLine bs e kn).2.1, ls) := by
        show (match (rdLine bs e kn).1 with | none => _ | some t => _) = _
        rw [hR]
      rw [e1] at h
      cases h
    | some t =>
      have e1 : rdF bs (n + 1) s e kn ls = if tkE bs (tkS bs (rdLine bs e kn).2.2.1) - tkS bs (rdLine bs e kn).2.2.1 = 0 then (none, ls ++ [t]) else if tkE bs (tkS bs (rdLine bs e kn).2.2.1) - tkS bs (rdLine bs e kn).2.2.1 = 1 ∧ bs.getD (tkS bs (rdLine bs e kn).2.2.1) 0 = 59 then rdF bs n (tkS bs (rdLine bs e kn).2.2.1) (tkE bs (tkS bs (rdLine bs e kn).2.2.1)) (rdLine bs e kn).2.2.2 (ls ++ [t]) else (some (tkS bs (rdLine bs e kn).2.2.1), ls ++ [t]) := by
        show (match (rdLine bs e kn).1 with | none => _ | some t => _) = _
        rw [hR]
      have ho := rdLine_ok he hR
      have hs : okLs bs k0 (ls ++ [t]) := okLs_snoc ls k0 h1 (by rw [h2]; exact ho.1)
      rw [e1] at h ⊢
      split
      · exact hs
      next c1 =>
        rw [if_neg c1] at h
        split
        next c2 =>
          rw [if_pos c2] at h
          exact ih _ _ _ _ (tk2 (rdLine_le he)) hs (by rw [List.foldl_append, h2, ho.2]; rfl) h
        next c2 =>
          rw [if_neg c2] at h
          cases h
theorem tk1 {bs : List Nat} {e : Nat} (he : e ≤ bs.length) : tkS bs e ≤ bs.length := (runE_le (fun b => decide (b = 32)) bs he).2
theorem rdLine_ls {bs : List Nat} {e kn : Nat} (he : e ≤ bs.length) : (rdLine bs e kn).2.1 ≤ bs.length := by
  have h1 := tk1 he
  have h2 := tk1 (tk2 he)
  have h3 := tk1 (tk2 (tk2 he))
  have h4 := tk1 (tk2 (tk2 (tk2 he)))
  unfold rdLine
  by_cases c0 : isW bs (tkS bs e) (tkE bs (tkS bs e)) 0 = true
  · rw [rdG_0 c0]; exact h2
  · by_cases c1 : isW bs (tkS bs e) (tkE bs (tkS bs e)) 1 = true
    · rw [rdG_1 c0 c1]; exact h2
    · by_cases c2 : isW bs (tkS bs e) (tkE bs (tkS bs e)) 2 = true
      · rw [rdG_2 c0 c1 c2]; unfold rdL; split <;> exact h2
      · by_cases c3 : isW bs (tkS bs e) (tkE bs (tkS bs e)) 3 = true
        · rw [rdG_3 c0 c1 c2 c3]
          unfold rdH
          split
          · unfold rdI
            split
            · unfold rdW
              split
              · exact h4
              · split <;> exact h4
            · exact h3
          · exact h2
        · rw [rdG_4 c0 c1 c2 c3]; exact h1
theorem rdF_le {bs : List Nat} {z : Nat} : ∀ (n s e kn : Nat) (ls : List (Nat × Nat × Nat × Nat)), s ≤ bs.length → e ≤ bs.length → (rdF bs n s e kn ls).1 = some z → z ≤ bs.length := by
  intro n
  induction n with
  | zero => intro s e kn ls hs _ h; cases h; exact hs
  | succ n ih =>
    intro s e kn ls hs he h
    cases hR : (rdLine bs e kn).1 with
    | none =>
      have e1 : rdF bs (n + 1) s e kn ls = (some (rdLine bs e kn).2.1, ls) := by
        show (match (rdLine bs e kn).1 with | none => _ | some t => _) = _
        rw [hR]
      rw [e1] at h
      cases h
      exact rdLine_ls he
    | some t =>
      have e1 : rdF bs (n + 1) s e kn ls = if tkE bs (tkS bs (rdLine bs e kn).2.2.1) - tkS bs (rdLine bs e kn).2.2.1 = 0 then (none, ls ++ [t]) else if tkE bs (tkS bs (rdLine bs e kn).2.2.1) - tkS bs (rdLine bs e kn).2.2.1 = 1 ∧ bs.getD (tkS bs (rdLine bs e kn).2.2.1) 0 = 59 then rdF bs n (tkS bs (rdLine bs e kn).2.2.1) (tkE bs (tkS bs (rdLine bs e kn).2.2.1)) (rdLine bs e kn).2.2.2 (ls ++ [t]) else (some (tkS bs (rdLine bs e kn).2.2.1), ls ++ [t]) := by
        show (match (rdLine bs e kn).1 with | none => _ | some t => _) = _
        rw [hR]
      rw [e1] at h
      split at h
      · cases h
      · split at h
        · exact ih _ _ _ _ (tk1 (rdLine_le he)) (tk2 (rdLine_le he)) h
        · cases h; exact tk1 (rdLine_le he)
section TLD
variable {l : Launch} {W : xW} {dep : Nat} {d : xD} {bs : List Nat}
def stC : List Nat := [1, 2, 4, 5, 6, 7, 17, 18, 19, 20]
theorem s_X11_doLine {σ : St} {t : Nat × Nat × Nat × Nat} {j : Nat} (hs : stIs d σ) (h : txIs d bs) (hj : j < 16) (hli : lineIs d j t) (hok : okL bs σ.1 t) : mSpecV l W mX11_doLine (dep + 3) [.ref (xad W 0), .ref (xad W (j + 34))] d (fun d' => stIs d' (doF bs σ t) ∧ chg stC d d') := by
  obtain ⟨k, fb, hp⟩ := σ
  have hk6 : k ≤ 6 := hs.1.2.2.2.1
  rcases hok with ⟨a, b, ht, q1, q2, q3⟩ | ⟨n, ht, q1, q2⟩ | ⟨hn, p, q, ht, q1, q2, q3, q4, q5⟩
  · rcases ht with rfl | rfl
    · exact (s_X11_doLine0 hs.1 rfl hj hli q1 q2 q3).mono (fun d' h' => ⟨⟨h'.1, hs.2.fr h'.2 (by simp)⟩, h'.2.mono (by simp [stC])⟩)
    · exact (s_X11_doLine1 hs.1 rfl hj hli q1 q2 q3).mono (fun d' h' => ⟨⟨h'.1, hs.2.fr h'.2 (by simp)⟩, h'.2.mono (by simp [stC])⟩)
  · subst ht
    exact (s_X11_doLine2 rfl hj hli q1 q2).mono (fun d' h' => ⟨⟨h'.1, h'.2.1⟩, h'.2.2.mono (by simp [stC])⟩)
  · subst ht
    refine (s_X11_doLine3 rfl hj h hli q1 q2 q3 q4 (fun i h1 h2 => ⟨(q5 i h1 h2).1, by have := (q5 i h1 h2).2; dsimp only at this; omega⟩)).mono (fun d' h' => ⟨⟨hs.1.fr h'.2 (by simp <;> omega) (by simp <;> omega), fun j' hj' => ?_⟩, h'.2.mono ?_⟩)
    · show rowIs d' j' (if j' = hn then wrd bs p (q - p) else hp j') ∧ ∀ x ∈ (if j' = hn then wrd bs p (q - p) else hp j'), x < k
      by_cases e : j' = hn
      · subst e
        rw [if_pos rfl]
        refine ⟨h'.1, fun x hx => ?_⟩
        obtain ⟨i, hi, rfl⟩ := List.mem_map.mp hx
        have := List.mem_range.mp hi
        exact (q5 (p + i) (by omega) (by omega)).2
      · rw [if_neg e]
        exact ⟨(hs.2 j' hj').1.fr h'.2 (by simp; omega) (by simp; omega), (hs.2 j' hj').2⟩
    · exact (by decide : ∀ hn, hn < 4 → ∀ o ∈ [hn + 4, hn + 17], o ∈ stC) hn q1
theorem okLs_at {bs : List Nat} : ∀ (ls : List (Nat × Nat × Nat × Nat)) (k0 i : Nat) (hi : i < ls.length), okLs bs k0 ls → okL bs ((ls.take i).foldl nxk k0) ls[i]
  | _ :: _, _, 0, _, h => h.1
  | _ :: ls, _, i + 1, hi, h => okLs_at ls _ i (by simpa using hi) h.2
theorem doF_k {bs : List Nat} (σ : St) (t : Nat × Nat × Nat × Nat) : (doF bs σ t).1 = nxk σ.1 t := by
  unfold doF nxk
  by_cases h0 : t.1 = 0
  · rw [if_pos h0, if_neg (by omega)]
  · rw [if_neg h0]
    by_cases h1 : t.1 = 1
    · rw [if_pos h1, if_neg (by omega)]
    · rw [if_neg h1]
      split <;> rfl
theorem doF_ks {bs : List Nat} : ∀ (ls : List (Nat × Nat × Nat × Nat)) (σ : St), (ls.foldl (doF bs) σ).1 = ls.foldl nxk σ.1
  | [], _ => rfl
  | t :: ls, σ => by
    show (ls.foldl (doF bs) (doF bs σ t)).1 = ls.foldl nxk (nxk σ.1 t)
    rw [doF_ks ls, doF_k]
theorem s_X11_told {σ : St} (hs : stIs d σ) (h : txIs d bs) : mSpecI l W mX11_told (dep + 8) [.ref (xad W 0)] d (fun r d' => (((rdF bs 16 0 0 σ.1 []).1 ≠ none ∧ r = -4 ∧ stIs d' σ ∧ txIs d' bs) ∨ ((rdF bs 16 0 0 σ.1 []).1 = none ∧ r = nI (rdF bs 16 0 0 σ.1 []).2.length ∧ stIs d' ((rdF bs 16 0 0 σ.1 []).2.foldl (doF bs) σ) ∧ txIs d' [])) ∧ chg (lnC ++ stC) d d') := by
  obtain ⟨hl, hh⟩ := hs
  have hk6 := hl.2.2.2.1
  have h160 := h.2.1
  refine m_spec RX11 [some (.ref (xad W 0)), none, none] rfl (by decide +kernel) rfl rfl (fun K hR => ?_)
  have m1 : ∀ o ∈ lnC, o ∈ lnC ++ stC := fun o ho => List.mem_append_left _ ho
  have m2 : ∀ o ∈ stC, o ∈ lnC ++ stC := fun o ho => List.mem_append_right _ ho
  have loop : ∀ ls : List (Nat × Nat × Nat × Nat), rdF bs 16 0 0 σ.1 [] = (none, ls) → ls.length ≤ 16 → okLs bs σ.1 ls → ∀ i, i ≤ ls.length → ∀ d1, stIs d1 ((ls.take i).foldl (doF bs) σ) → txIs d1 bs → (∀ i' t, ls[i']? = some t → lineIs d1 i' t) → chg (lnC ++ stC) d d1 → mG W K cX11_told RX11 (dep + 8) d1 31 [some (.ref (xad W 0)), some (.int (nI ls.length)), some (.int (nI i))] [] := fun ls e1 e2 e3 => x_up _ (fun i hi ih d1 g1 g2 g3 g4 => by
    refine m_iload_n dX11_told_31 rfl ?_
    refine m_iload_n dX11_told_32 rfl ?_
    first | refine m_icmp_geN 54 dX11_told_33 (by decide) (by omega) (by omega) (fun c33 => ?_) (fun c33 => ?_) | refine m_icmp_ge 54 dX11_told_33 (by decide) (fun c33 => ?_) (fun c33 => ?_)
    · refine m_aload_n dX11_told_54 rfl ?_
      refine m_get fl_X11_30 (by decide) rfl rfl dX11_told_55 ?_
      refine m_callVV (s_X10_wipe) cv_X11_103 dX11_told_58 (fun d58 h58 => ?_)
      refine m_iload_n dX11_told_61 rfl ?_
      have e6 : i = ls.length := by omega
      subst e6
      rw [List.take_length] at g1
      exact m_iret (ty := .int) hR dX11_told_62 (⟨by rw [e1]; exact Or.inr ⟨rfl, rfl, ⟨g1.1.fr h58.2 (by simp) (by simp), g1.2.fr h58.2 (by simp <;> omega)⟩, h58.1⟩, g4.tr (h58.2.mono (fun o ho => m1 o (by simp at ho; subst ho; decide)))⟩)
    · refine m_aload_n dX11_told_36 rfl ?_
      refine m_aload_n dX11_told_37 rfl ?_
      refine m_get fl_X11_39 (by decide) rfl rfl dX11_told_38 ?_
      refine m_iload_n dX11_told_41 rfl ?_
      refine m_callVRp (s_X5_at (n := i) (by omega)) cv_X11_112 dX11_told_42 ?_
      have hil : i < ls.length := by omega
      have hok := okLs_at ls σ.1 i hil e3
      rw [← doF_ks (bs := bs)] at hok
      refine m_callVV (s_X11_doLine g1 g2 (by omega) (g3 i ls[i] (List.getElem?_eq_getElem hil)) hok) cv_X11_116 dX11_told_45 (fun d45 h45 => ?_)
      first | refine m_iincN 1 dX11_told_48 (by decide) rfl rfl ?_ | refine m_iinc dX11_told_48 rfl rfl ?_
      refine m_goto 31 dX11_told_51 (by decide) ?_
      refine ih (by omega) d45 ?_ (g2.fr h45.2 (by simp [stC]) (by simp [stC])) (fun i' t q => (g3 i' t q).fr h45.2 ?_) (g4.tr (h45.2.mono m2))
      · rw [List.take_succ_eq_append_getElem hil, List.foldl_append]
        exact h45.1
      · have : i' < ls.length := by
          refine Nat.not_le.mp (fun z => ?_)
          rw [List.getElem?_eq_none z] at q
          cases q
        exact (by decide : ∀ i', i' < 16 → i' + 34 ∉ stC) i' (by omega)
    )
  cases hF : (rdF bs 16 0 0 σ.1 []).1 with
  | some z =>
    have hzl := rdF_le 16 0 0 σ.1 [] (Nat.zero_le _) (Nat.zero_le _) hF
    have hne : ∀ z, z < 161 → ¬ nI z = -1 := by decide +kernel
    refine m_aload_n dX11_told_0 rfl ?_
    refine m_get fl_X11_39 (by decide) rfl rfl dX11_told_1 ?_
    refine m_aload_n dX11_told_4 rfl ?_
    refine m_get fl_X11_12 (by decide) rfl rfl dX11_told_5 ?_
    refine m_callVIp (s_X3_size hl) cv_X11_106 dX11_told_8 ?_
    refine m_callVI (s_X5_read h hk6) cv_X11_107 dX11_told_11 (fun r11 d11 h11 => ?_)
    obtain ⟨rfl, a2, a3, a4⟩ := h11
    have hst : stIs d11 σ := ⟨hl.fr a4 (by decide) (by decide), hh.fr a4 (by decide)⟩
    refine m_eqi (show rdA (rdF bs 16 0 0 σ.1 []).1 = nI z by rw [hF]; rfl) ?_
    refine m_iconst (v := -1) dX11_told_14 (by decide) ?_
    refine m_icmp_eq 21 dX11_told_15 (by decide) (fun c15 => by exfalso; exact hne z (by omega) c15) (fun c15 => ?_)
    refine m_bipush (v := -4) dX11_told_18 (by decide) ?_
    exact m_iret (ty := .int) hR dX11_told_20 (⟨Or.inl ⟨by rw [hF]; simp, rfl, hst, a2⟩, a4.mono m1⟩)
  | none =>
    have hok := rdF_ok (k0 := σ.1) 16 0 0 σ.1 [] (Nat.zero_le _) trivial rfl hF
    have hpr : rdF bs 16 0 0 σ.1 [] = (none, (rdF bs 16 0 0 σ.1 []).2) := Prod.ext hF rfl
    refine m_aload_n dX11_told_0 rfl ?_
    refine m_get fl_X11_39 (by decide) rfl rfl dX11_told_1 ?_
    refine m_aload_n dX11_told_4 rfl ?_
    refine m_get fl_X11_12 (by decide) rfl rfl dX11_told_5 ?_
    refine m_callVIp (s_X3_size hl) cv_X11_106 dX11_told_8 ?_
    refine m_callVI (s_X5_read h hk6) cv_X11_107 dX11_told_11 (fun r11 d11 h11 => ?_)
    obtain ⟨rfl, a2, a3, a4⟩ := h11
    have hst : stIs d11 σ := ⟨hl.fr a4 (by decide) (by decide), hh.fr a4 (by decide)⟩
    have a3' := a3 hF
    refine m_eqi (show rdA (rdF bs 16 0 0 σ.1 []).1 = -1 by rw [hF]; rfl) ?_
    refine m_iconst (v := -1) dX11_told_14 (by decide) ?_
    refine m_icmp_eq 21 dX11_told_15 (by decide) (fun c15 => ?_) (fun c15 => by exfalso; exact c15 rfl)
    refine m_aload_n dX11_told_21 rfl ?_
    refine m_get fl_X11_39 (by decide) rfl rfl dX11_told_22 ?_
    refine m_callVIp (s_X5_size a3'.1) cv_X11_111 dX11_told_25 ?_
    refine m_istore_n dX11_told_28 (Nat.le_of_ble_eq_true rfl) rfl ?_
    refine m_iconstN 0 dX11_told_29 (by decide) ?_
    refine m_istore_n dX11_told_30 (Nat.le_of_ble_eq_true rfl) rfl ?_
    exact loop _ hpr a3'.2.1 hok 0 (Nat.zero_le _) d11 hst a2 a3'.2.2 (a4.mono m1)
end TLD
