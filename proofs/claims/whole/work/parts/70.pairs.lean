/-! EACH PUBLIC METHOD BESIDE THE MODEL'S: one answer, and the state stays told by both -/
abbrev avSt (S : List Nat) : Prop := ∀ o ∈ S, ¬ (o = 1 ∨ o = 2 ∨ (4 ≤ o ∧ o ≤ 7) ∨ (17 ≤ o ∧ o ≤ 20))
abbrev avTx (S : List Nat) : Prop := ∀ o ∈ S, ¬ (o = 30 ∨ o = 31)
abbrev avRd (S : List Nat) : Prop := ∀ o ∈ S, ¬ (o = 66 ∨ (70 ≤ o ∧ o ≤ 74))
abbrev loS (S : List Nat) : Prop := ∀ o ∈ S, o < 240
abbrev hiS (S : List Nat) : Prop := ∀ o ∈ S, 240 ≤ o
abbrev avA (S : List Nat) : Prop := ∀ o ∈ S, o < 240 ∧ ¬ (o = 1 ∨ o = 2 ∨ (4 ≤ o ∧ o ≤ 7) ∨ (17 ≤ o ∧ o ≤ 20)) ∧ ¬ (o = 30 ∨ o = 31) ∧ ¬ (o = 66 ∨ (70 ≤ o ∧ o ≤ 74))
abbrev avM (S : List Nat) : Prop := ∀ o ∈ S, 240 < o ∧ ¬ (o = 241 ∨ o = 242 ∨ o = 243 ∨ o = 244 ∨ o = 261)
def clX (d : xD) (σ : St) (bs : List Nat) (sts tb : Nat) (mv : Nat → Nat → Nat) : Prop := stIs d σ ∧ txIs d bs ∧ rdIs d sts tb mv ∧ ∃ z, ptIs d z
def moX (d : xD) (σ : St) (bs : List Nat) (sts tb : Nat) (mv : Nat → Nat → Nat) : Prop := moSt d σ ∧ moTx d bs ∧ moRd d sts tb mv
def inv (d : xD) : Prop := ∃ (σ : St) (bs : List Nat) (sts tb : Nat) (mv : Nat → Nat → Nat), clX d σ bs sts tb mv ∧ moX d σ bs sts tb mv
def pair (l : Launch) (W : xW) (M1 M2 : xM) (av : List Value) (d : xD) : Prop := ∃ J : Int32 → xD → Prop, mSpecI l W M1 11 (.ref (xad W 0) :: av) d J ∧ ∀ r d1, J r d1 → mSpecI l W M2 11 (.ref (xad W 240) :: av) d1 (fun r2 d2 => r2 = r ∧ inv d2)
section PR
variable {l : Launch} {W : xW} {d d' d1 : xD} {σ σ' : St} {bs bs' : List Nat} {sts tb sts' tb' : Nat} {mv mv' : Nat → Nat → Nat} {S S' : List Nat} {M1 M2 M : xM} {av : List Value} {dep z : Nat}
theorem st_av (h : stIs d σ) (hc : chg S d d') (hS : avSt S) : stIs d' σ := h.fr hc (fun z => hS 1 z (by omega)) (fun z => hS 2 z (by omega)) (fun j hj => ⟨fun z => hS _ z (by omega), fun z => hS _ z (by omega)⟩)
theorem tx_av (h : txIs d bs) (hc : chg S d d') (hS : avTx S) : txIs d' bs := h.fr hc (fun z => hS _ z (Or.inl rfl)) (fun z => hS _ z (Or.inr rfl))
theorem rd_av (h : rdIs d sts tb mv) (hc : chg S d d') (hS : avRd S) : rdIs d' sts tb mv := h.fr hc (fun o z => by have := hS o z; omega)
theorem pt_av (h : ptIs d z) (hc : chg S d d') (hS : avRd S) : ptIs d' z := h.fr hc (fun q => hS _ q (Or.inl rfl))
theorem ptx_av (h : ∃ z, ptIs d z) (hc : chg S d d') (hS : avRd S) : ∃ z, ptIs d' z := h.imp (fun _ h => pt_av h hc hS)
theorem motx (h : moTx d bs) (h0 : d'.1 240 4 = d.1 240 4) (h1 : d'.1 244 = d.1 244) : moTx d' bs := ⟨h0.trans h.1, h.2.1, fun i hi => by rw [h1]; exact h.2.2 i hi⟩
theorem most (h : moSt d σ) (h0 : d'.1 240 0 = d.1 240 0) (hc : chg S d d') (hS : ∀ o ∈ S, ¬ (o = 241 ∨ o = 242 ∨ o = 243)) : moSt d' σ := ⟨h.1.k0 h0 (hc 241 (fun z => hS _ z (by omega))).1, h.2.k0 (hc 242 (fun z => hS _ z (by omega))).1 (hc 243 (fun z => hS _ z (by omega))).1⟩
theorem mo_lo (h : moX d σ bs sts tb mv) (hc : chg S d d') (hS : loS S) : moX d' σ bs sts tb mv := by
  have n : ∀ k, 240 ≤ k → k ∉ S := fun k hk z => absurd (hS k z) (by omega)
  exact ⟨h.1.fr hc (n 240 (by omega)) (n 241 (by omega)) (n 242 (by omega)) (n 243 (by omega)), motx h.2.1 (by rw [(hc 240 (n 240 (by omega))).1]) (hc 244 (n 244 (by omega))).1, h.2.2.fr hc (n 240 (by omega)) (n 261 (by omega))⟩
theorem cl_av (h : clX d σ bs sts tb mv) (hc : chg S d d') (h1 : avSt S) (h2 : avTx S) (h3 : avRd S) : clX d' σ bs sts tb mv := ⟨st_av h.1 hc h1, tx_av h.2.1 hc h2, rd_av h.2.2.1 hc h3, ptx_av h.2.2.2 hc h3⟩
theorem cl_hi (h : clX d σ bs sts tb mv) (hc : chg S d d') (hS : hiS S) : clX d' σ bs sts tb mv := cl_av h hc (fun o z => by have := hS o z; omega) (fun o z => by have := hS o z; omega) (fun o z => by have := hS o z; omega)
theorem cl_A (h : clX d σ bs sts tb mv) (hc : chg S d d') (hS : avA S) : clX d' σ bs sts tb mv := cl_av h hc (fun o z => (hS o z).2.1) (fun o z => (hS o z).2.2.1) (fun o z => (hS o z).2.2.2)
/-- the class's state of letters and heaps is new, all else as it was -/
theorem cl_st (h : clX d σ bs sts tb mv) (h1 : stIs d' σ') (hc : chg S d d') (h2 : avTx S) (h3 : avRd S) : clX d' σ' bs sts tb mv := ⟨h1, tx_av h.2.1 hc h2, rd_av h.2.2.1 hc h3, ptx_av h.2.2.2 hc h3⟩
theorem mo_K (h : moX d σ bs sts tb mv) (hc : chK S d d') (hS : avM S) : moX d' σ bs sts tb mv := by
  have n : ∀ k, k = 241 ∨ k = 242 ∨ k = 243 ∨ k = 244 ∨ k = 261 → k ∉ 240 :: S := fun k hk z => by
    rcases List.mem_cons.mp z with e | z
    · omega
    · have := hS k z; omega
  exact ⟨h.1.ck hc (fun z => absurd (hS _ z) (by omega)) (fun z => absurd (hS _ z) (by omega)) (fun z => absurd (hS _ z) (by omega)), motx h.2.1 hc.2.2.1 (hc.1 244 (n 244 (by omega))).1, h.2.2.k0 hc.2.2.2.1 hc.2.2.2.2 (hc.1 261 (n 261 (by omega))).1⟩
theorem mo_st (h : moX d σ bs sts tb mv) (h1 : moSt d' σ') (hc : chg S d d') (hS : ∀ o ∈ S, ¬ (o = 240 ∨ o = 244 ∨ o = 261)) : moX d' σ' bs sts tb mv := ⟨h1, motx h.2.1 (by rw [(hc 240 (fun z => hS _ z (by omega))).1]) (hc 244 (fun z => hS _ z (by omega))).1, h.2.2.fr hc (fun z => hS _ z (by omega)) (fun z => hS _ z (by omega))⟩
theorem ch {A : Int32 → Prop} (h : mSpecI l W M dep av d (fun r d' => A r ∧ d' = d)) : mSpecI l W M dep av d (fun r d' => A r ∧ chg [] d d') := h.mono (fun _ _ q => ⟨q.1, by rw [q.2]; exact chg.rf⟩)
theorem cd {A : Int32 → Prop} (h : mSpecI l W M dep av d (fun r d' => A r ∧ d' = d)) : mSpecI l W M dep av d (fun r d' => A r ∧ chK [] d d') := h.mono (fun _ _ q => ⟨q.1, by rw [q.2]; exact chK.rf⟩)
theorem ck {A : Int32 → Prop} (h : mSpecI l W M dep av d (fun r d' => A r ∧ chg S d d')) (h0 : 240 ∉ S) : mSpecI l W M dep av d (fun r d' => A r ∧ chK S d d') := h.mono (fun _ _ q => ⟨q.1, chK.of q.2 h0⟩)
theorem pr_s (v : Int32) (σ' : St) (bs' : List Nat) (sts' tb' : Nat) (mv' : Nat → Nat → Nat) (hm : moX d σ bs sts tb mv) (h1 : mSpecI l W M1 11 (.ref (xad W 0) :: av) d (fun r d' => r = v ∧ clX d' σ' bs' sts' tb' mv' ∧ chg S d d')) (hS : loS S)
    (h2 : ∀ d1, moX d1 σ bs sts tb mv → mSpecI l W M2 11 (.ref (xad W 240) :: av) d1 (fun r d' => r = v ∧ moX d' σ' bs' sts' tb' mv' ∧ chg S' d1 d')) (hS' : hiS S') : pair l W M1 M2 av d :=
  ⟨_, h1, fun _ d1 e => (h2 d1 (mo_lo hm e.2.2 hS)).mono (fun _ _ g => ⟨g.1.trans e.1.symm, _, _, _, _, _, cl_hi e.2.1 g.2.2 hS', g.2.1⟩)⟩
theorem pr_a {A : Int32 → Prop} (hA : ∀ r r', A r → A r' → r = r') (hc : clX d σ bs sts tb mv) (hm : moX d σ bs sts tb mv) (h1 : mSpecI l W M1 11 (.ref (xad W 0) :: av) d (fun r d' => A r ∧ chg S d d')) (hS : avA S)
    (h2 : ∀ d1, moX d1 σ bs sts tb mv → mSpecI l W M2 11 (.ref (xad W 240) :: av) d1 (fun r d' => A r ∧ chK S' d1 d')) (hS' : avM S') : pair l W M1 M2 av d :=
  ⟨_, h1, fun _ d1 e => by
    have hm1 := mo_lo hm e.2 (fun o z => (hS o z).1)
    exact (h2 d1 hm1).mono (fun _ _ g => ⟨hA _ _ g.1 e.1, _, _, _, _, _, cl_hi (cl_A hc e.2 hS) g.2.1 (fun o z => by
      rcases List.mem_cons.mp z with e | z
      · omega
      · have := hS' o z; omega), mo_K hm1 g.2 hS'⟩)⟩
theorem pr_e {v : Int32} (hc : clX d σ bs sts tb mv) (hm : moX d σ bs sts tb mv) (h1 : mSpecI l W M1 11 (.ref (xad W 0) :: av) d (fun r d' => r = v ∧ chg S d d')) (hS : avA S)
    (h2 : ∀ d1, moX d1 σ bs sts tb mv → mSpecI l W M2 11 (.ref (xad W 240) :: av) d1 (fun r d' => r = v ∧ chK S' d1 d')) (hS' : avM S') : pair l W M1 M2 av d :=
  pr_a (A := fun r => r = v) (fun _ _ a b => a.trans b.symm) hc hm h1 hS h2 hS'
theorem rng {x : Int32} {a b : Nat} (ha : a < 2 ^ 31) (hb : b < 2 ^ 31) (h : ¬ (x < nI a ∨ nI b < x)) : ∃ n, a ≤ n ∧ n ≤ b ∧ x = nI n := by
  have h0 : ¬ x < 0 := fun q => h (Or.inl (by
    have h1 := Int32.lt_iff_toInt_lt.mp q
    have h3 : (0 : Int32).toInt = 0 := rfl
    rw [Int32.lt_iff_toInt_lt, nI_toInt ha]
    omega))
  obtain ⟨j, hj, rfl⟩ := nI_of h0
  exact ⟨j, Nat.not_lt.mp fun q => h (Or.inl ((nI_ltI hj ha).mpr q)), Nat.not_lt.mp fun q => h (Or.inr ((nI_ltI hb hj).mpr q)), rfl⟩
theorem rng0 {x : Int32} {b : Nat} (hb : b < 2 ^ 31) (h : ¬ (x < 0 ∨ nI b < x)) : ∃ n, n ≤ b ∧ x = nI n := by
  obtain ⟨n, -, h2, h3⟩ := rng (x := x) (a := 0) (by omega) hb h
  exact ⟨n, h2, h3⟩
theorem ge_m1 {x : Int32} (h : ¬ x < -1) (h1 : ¬ x = -1) : ¬ x < 0 := fun q => by
  have a := Int32.lt_iff_toInt_lt.mp q
  have b : ¬ x.toInt < (-1 : Int32).toInt := fun z => h (Int32.lt_iff_toInt_lt.mpr z)
  have c : ¬ x.toInt = (-1 : Int32).toInt := fun z => h1 (Int32.toInt_inj.mp z)
  have e0 : (0 : Int32).toInt = 0 := rfl
  have e1 : (-1 : Int32).toInt = -1 := by decide
  omega
theorem hp_c {n : Nat} (hn : n < 4) : ∀ o ∈ [n + 4, n + 17], o ∈ [4, 5, 6, 7, 17, 18, 19, 20] := (by decide : ∀ n, n < 4 → ∀ o ∈ [n + 4, n + 17], o ∈ [4, 5, 6, 7, 17, 18, 19, 20]) n hn
theorem hp_c1 {n : Nat} (hn : n < 4) : ∀ o ∈ [n + 4], o ∈ [4, 5, 6, 7, 17, 18, 19, 20] := (by decide : ∀ n, n < 4 → ∀ o ∈ [n + 4], o ∈ [4, 5, 6, 7, 17, 18, 19, 20]) n hn
theorem mv_c {n : Nat} (hn : n < 5) : ∀ o ∈ [n + 70], o ∈ [70, 71, 72, 73, 74] := (by decide : ∀ n, n < 5 → ∀ o ∈ [n + 70], o ∈ [70, 71, 72, 73, 74]) n hn
theorem mind_u {p : Nat → Prop} {r r' : Int32} (h : (∃ N, r = nI N ∧ p N ∧ ∀ M, M < N → ¬ p M) ∨ (r = -1 ∧ ∀ M, ¬ p M)) (h' : (∃ N, r' = nI N ∧ p N ∧ ∀ M, M < N → ¬ p M) ∨ (r' = -1 ∧ ∀ M, ¬ p M)) : r = r' := by
  rcases h with ⟨N, h1, h2, h3⟩ | ⟨h1, h2⟩ <;> rcases h' with ⟨N', g1, g2, g3⟩ | ⟨g1, g2⟩
  · rcases Nat.lt_trichotomy N N' with e | e | e
    · exact absurd h2 (g3 _ e)
    · rw [h1, g1, e]
    · exact absurd g2 (h3 _ e)
  · exact absurd h2 (g2 _)
  · exact absurd g2 (h2 _)
  · rw [h1, g1]
theorem cl_k {σ : St} (hc : clX d σ bs sts tb mv) : σ.1 < 2 ^ 31 := by have := hc.1.1.2.2.2.1; omega
theorem chF.toK {d d' : xD} (h : chF d d') : chK [245] d d' := ⟨h.1, h.2 0 (by decide), h.2 4 (by decide), h.2 32 (by decide), h.2 33 (by decide)⟩
theorem p_write (v : Int64) (x : Int32) (h : inv d) : pair l W mX11_write mX12_write [.long v, .int x] d := by
  obtain ⟨σ, bs, sts, tb, mv, hc, hm⟩ := h
  by_cases hx : x < nI 1 ∨ nI 8 < x
  · exact pr_e hc hm (ch (s_X11_writeO (dep := 10) hx)) (by decide +kernel) (fun d1 hm1 => cd (s_X12_writeO (dep := 10) hx)) (by decide +kernel)
  obtain ⟨n, h1, h8, rfl⟩ := rng (by omega) (by omega) hx
  by_cases hl : bs.length + n ≤ 160
  · refine pr_s (nI (bs.length + n)) σ (bs ++ bytL v n) sts tb mv hm (S := [30, 31]) (S' := [240, 244]) ((s_X11_write (dep := 10) hc.2.1 h1 h8).mono (fun r d' g => ?_)) (by decide +kernel) (fun d1 hm1 => (s_X12_write (dep := 10) hm1.2.1 h1 h8).mono (fun r d' g => ?_)) (by decide +kernel)
    · obtain ⟨⟨-, e1, e2⟩ | ⟨e0, -⟩, g⟩ := g
      · exact ⟨e1, ⟨st_av hc.1 g (by decide +kernel), e2, rd_av hc.2.2.1 g (by decide +kernel), ptx_av hc.2.2.2 g (by decide +kernel)⟩, g⟩
      · exact absurd hl e0
    · obtain ⟨⟨-, e1, e2, e3⟩ | ⟨e0, -⟩, g⟩ := g
      · exact ⟨e1, ⟨most hm1.1 (e3 0 (by decide)) g (by decide +kernel), e2, hm1.2.2.k0 (e3 32 (by decide)) (e3 33 (by decide)) (g 261 (by decide)).1⟩, g⟩
      · exact absurd hl e0
  · refine pr_e (v := -5) hc hm (S := []) (S' := []) ((s_X11_write (dep := 10) hc.2.1 h1 h8).mono (fun r d' g => ?_)) (by decide +kernel) (fun d1 hm1 => (s_X12_write (dep := 10) hm1.2.1 h1 h8).mono (fun r d' g => ?_)) (by decide +kernel)
    · obtain ⟨⟨e0, -⟩ | ⟨-, e1, e2⟩, -⟩ := g
      · exact absurd e0 hl
      · exact ⟨e1, by rw [e2]; exact chg.rf⟩
    · obtain ⟨⟨e0, -⟩ | ⟨-, e1, e2⟩, -⟩ := g
      · exact absurd e0 hl
      · exact ⟨e1, by rw [e2]; exact chK.rf⟩
theorem p_erase (h : inv d) : pair l W mX11_erase mX12_erase [] d := by
  obtain ⟨σ, bs, sts, tb, mv, hc, hm⟩ := h
  refine pr_s (nI bs.length) σ [] sts tb mv hm (S := [30]) (S' := [240]) ((s_X11_erase (dep := 10) hc.2.1).mono (fun r d' g => ?_)) (by decide +kernel) (fun d1 hm1 => (s_X12_erase (dep := 11) hm1.2.1).mono (fun r d' g => ?_)) (by decide +kernel)
  · obtain ⟨e1, e2, g⟩ := g
    exact ⟨e1, ⟨st_av hc.1 g (by decide +kernel), e2, rd_av hc.2.2.1 g (by decide +kernel), ptx_av hc.2.2.2 g (by decide +kernel)⟩, g⟩
  · obtain ⟨e1, e2, rfl⟩ := g
    have g : chg [240] d1 (seI d1 240 4 (nI 0)) := chg.rf.se (by decide)
    exact ⟨e1, ⟨most hm1.1 (se_n _ _ (by decide)) g (by decide +kernel), e2, hm1.2.2.k0 (se_n _ _ (by decide)) (se_n _ _ (by decide)) (g 261 (by decide)).1⟩, g⟩
theorem p_fault (h : inv d) : pair l W mX11_fault mX12_fault [] d := by
  obtain ⟨σ, bs, sts, tb, mv, hc, hm⟩ := h
  refine pr_s (rdA (rdF bs 16 0 0 σ.1 []).1) σ bs sts tb mv hm (S := lnC) (S' := [240, 245]) ((s_X11_fault (dep := 3) hc.1.1 hc.2.1).mono (fun r d' g => ?_)) (by decide +kernel) (fun d1 hm1 => (s_X12_fault (dep := 5) hm1.1.1 hm1.2.1).mono (fun r d' g => ?_)) (by decide +kernel)
  · obtain ⟨e1, e2, g⟩ := g
    exact ⟨e1, ⟨st_av hc.1 g (by decide +kernel), e2, rd_av hc.2.2.1 g (by decide +kernel), ptx_av hc.2.2.2 g (by decide +kernel)⟩, g⟩
  · obtain ⟨e1, g⟩ := g
    exact ⟨e1, mo_K hm1 g.toK (by decide +kernel), g.1⟩
theorem p_told (h : inv d) : pair l W mX11_told mX12_told [] d := by
  obtain ⟨σ, bs, sts, tb, mv, hc, hm⟩ := h
  by_cases hf : (rdF bs 16 0 0 σ.1 []).1 = none
  · refine pr_s (nI (rdF bs 16 0 0 σ.1 []).2.length) ((rdF bs 16 0 0 σ.1 []).2.foldl (doF bs) σ) [] sts tb mv hm (S := lnC ++ stC) (S' := moTC) ((s_X11_told (dep := 3) hc.1 hc.2.1).mono (fun r d' g => ?_)) (by decide +kernel) (fun d1 hm1 => (s_X12_told (dep := 5) hm1.1 hm1.2.1).mono (fun r d' g => ?_)) (by decide +kernel)
    · obtain ⟨⟨e0, -⟩ | ⟨-, e1, e2, e3⟩, g⟩ := g
      · exact absurd hf e0
      · exact ⟨e1, ⟨e2, e3, rd_av hc.2.2.1 g (by decide +kernel), ptx_av hc.2.2.2 g (by decide +kernel)⟩, g⟩
    · obtain ⟨⟨e0, -⟩ | ⟨-, e1, e2, e3⟩, f, g⟩ := g
      · exact absurd hf e0
      · exact ⟨e1, ⟨e2, e3, hm1.2.2.k0 f.1 f.2 (g 261 (by decide)).1⟩, g⟩
  · refine pr_s (-4) σ bs sts tb mv hm (S := lnC ++ stC) (S' := moTC) ((s_X11_told (dep := 3) hc.1 hc.2.1).mono (fun r d' g => ?_)) (by decide +kernel) (fun d1 hm1 => (s_X12_told (dep := 5) hm1.1 hm1.2.1).mono (fun r d' g => ?_)) (by decide +kernel)
    · obtain ⟨⟨-, e1, e2, e3⟩ | ⟨e0, -⟩, g⟩ := g
      rotate_left
      · exact absurd e0 hf
      · exact ⟨e1, ⟨e2, e3, rd_av hc.2.2.1 g (by decide +kernel), ptx_av hc.2.2.2 g (by decide +kernel)⟩, g⟩
    · obtain ⟨⟨-, e1, e2, e3⟩ | ⟨e0, -⟩, f, g⟩ := g
      rotate_left
      · exact absurd e0 hf
      · exact ⟨e1, ⟨e2, e3, hm1.2.2.k0 f.1 f.2 (g 261 (by decide)).1⟩, g⟩
theorem p_free (x y : Int32) (v : Bool) (h : inv d) : pair l W mX11_free mX12_free [.int x, .int y, .int (if v then 1 else 0)] d := by
  obtain ⟨σ, bs, sts, tb, mv, hc, hm⟩ := h
  have k31 := cl_k hc
  rcases pk_ix x k31 with e | e | ⟨a, ha, rfl⟩
  · exact pr_e hc hm (ch (s_X11_freeA (dep := 10) (Or.inl e) hc.1)) (by decide +kernel) (fun d1 hm1 => cd (s_X12_freeA (dep := 9) (Or.inl e) hm1.1)) (by decide +kernel)
  · exact pr_e hc hm (ch (s_X11_freeA (dep := 10) (Or.inr e) hc.1)) (by decide +kernel) (fun d1 hm1 => cd (s_X12_freeA (dep := 9) (Or.inr e) hm1.1)) (by decide +kernel)
  rcases pk_ix y k31 with e | e | ⟨b, hb, rfl⟩
  · exact pr_e hc hm (ch (s_X11_freeB (dep := 10) ha (Or.inl e) hc.1)) (by decide +kernel) (fun d1 hm1 => cd (s_X12_freeB (dep := 9) ha (Or.inl e) hm1.1)) (by decide +kernel)
  · exact pr_e hc hm (ch (s_X11_freeB (dep := 10) ha (Or.inr e) hc.1)) (by decide +kernel) (fun d1 hm1 => cd (s_X12_freeB (dep := 9) ha (Or.inr e) hm1.1)) (by decide +kernel)
  by_cases hne : a = b
  · subst hne
    exact pr_e hc hm (ch (s_X11_freeC (dep := 10) ha hc.1)) (by decide +kernel) (fun d1 hm1 => cd (s_X12_freeC (dep := 9) ha hm1.1)) (by decide +kernel)
  refine pr_s (if (σ.2.1 a).testBit b = true then 1 else 0) (σ.1, setFB σ.2.1 a b v, σ.2.2) bs sts tb mv hm (S := [2]) (S' := [241]) ((s_X11_free (dep := 8) ha hb hne hc.1).mono (fun r d' g => ⟨g.1, cl_st hc g.2.1 g.2.2 (by decide +kernel) (by decide +kernel), g.2.2⟩)) (by decide +kernel) (fun d1 hm1 => (s_X12_free (dep := 9) ha hb hne hm1.1).mono (fun r d' g => ⟨g.1, mo_st hm1 g.2.1 g.2.2 (by decide +kernel), g.2.2⟩)) (by decide +kernel)
theorem p_add (x y : Int32) (h : inv d) : pair l W mX11_add mX12_add [.int x, .int y] d := by
  obtain ⟨σ, bs, sts, tb, mv, hc, hm⟩ := h
  have k31 := cl_k hc
  rcases hx : hN x with _ | n
  · exact pr_e hc hm (ch (s_X11_addO (dep := 10) (Or.inl hx) hc.1)) (by decide +kernel) (fun d1 hm1 => cd (s_X12_addO (dep := 9) (Or.inl hx) hm1.1)) (by decide +kernel)
  rcases pk_ix y k31 with e | e | ⟨m, hm0, rfl⟩
  · exact pr_e hc hm (ch (s_X11_addO (dep := 10) (Or.inr (Or.inl e)) hc.1)) (by decide +kernel) (fun d1 hm1 => cd (s_X12_addO (dep := 9) (Or.inr (Or.inl e)) hm1.1)) (by decide +kernel)
  · exact pr_e hc hm (ch (s_X11_addO (dep := 10) (Or.inr (Or.inr e)) hc.1)) (by decide +kernel) (fun d1 hm1 => cd (s_X12_addO (dep := 9) (Or.inr (Or.inr e)) hm1.1)) (by decide +kernel)
  have hn := (hN_some hx).1
  have h24 := (hc.1.2 n hn).1.1
  by_cases hl : (σ.2.2 n).length < 24
  · refine pr_s (nI ((σ.2.2 n).length + 1)) (setH σ n (σ.2.2 n ++ [m])) bs sts tb mv hm (S := [4, 5, 6, 7, 17, 18, 19, 20]) (S' := [242, 243]) ((s_X11_add (dep := 10) hx hm0 hc.1 hl).mono (fun r d' g => ?_)) (by decide +kernel) (fun d1 hm1 => (s_X12_add (dep := 9) hx hm0 hm1.1 hl).mono (fun r d' g => ⟨g.1, mo_st hm1 g.2.1 g.2.2 (by decide +kernel), g.2.2⟩)) (by decide +kernel)
    have g2 := g.2.2.mono (hp_c hn)
    exact ⟨g.1, cl_st hc g.2.1 g2 (by decide +kernel) (by decide +kernel), g2⟩
  · exact pr_e hc hm (ch (s_X11_addF (dep := 10) hx hm0 hc.1 (by omega))) (by decide +kernel) (fun d1 hm1 => cd (s_X12_addF (dep := 9) hx hm0 hm1.1 (by omega))) (by decide +kernel)
theorem p_clear (x : Int32) (h : inv d) : pair l W mX11_clear mX12_clear [.int x] d := by
  obtain ⟨σ, bs, sts, tb, mv, hc, hm⟩ := h
  rcases hx : hN x with _ | n
  · exact pr_e hc hm (ch (s_X11_clearO (dep := 10) hx)) (by decide +kernel) (fun d1 hm1 => cd (s_X12_clearO (dep := 9) hx)) (by decide +kernel)
  have hn := (hN_some hx).1
  refine pr_s (nI (σ.2.2 n).length) (setH σ n []) bs sts tb mv hm (S := [4, 5, 6, 7, 17, 18, 19, 20]) (S' := [242]) ((s_X11_clear (dep := 10) hx hc.1).mono (fun r d' g => ?_)) (by decide +kernel) (fun d1 hm1 => (s_X12_clear (dep := 9) hx hm1.1).mono (fun r d' g => ⟨g.1, mo_st hm1 g.2.1 g.2.2 (by decide +kernel), g.2.2⟩)) (by decide +kernel)
  have g2 := g.2.2.mono (hp_c1 hn)
  exact ⟨g.1, cl_st hc g.2.1 g2 (by decide +kernel) (by decide +kernel), g2⟩
theorem p_mirror (x : Int32) (h : inv d) : pair l W mX11_mirror mX12_mirror [.int x] d := by
  obtain ⟨σ, bs, sts, tb, mv, hc, hm⟩ := h
  rcases hx : hN x with _ | n
  · exact pr_e hc hm (ch (s_X11_mirrorO (dep := 10) hx)) (by decide +kernel) (fun d1 hm1 => cd (s_X12_mirrorO (dep := 9) hx)) (by decide +kernel)
  have hn := (hN_some hx).1
  refine pr_s (nI (σ.2.2 n).length) (setH σ n (σ.2.2 n).reverse) bs sts tb mv hm (S := [4, 5, 6, 7, 17, 18, 19, 20]) (S' := moPC) ((s_X11_mirror (dep := 9) hx hc.1).mono (fun r d' g => ?_)) (by decide +kernel) (fun d1 hm1 => (s_X12_mirror (dep := 9) hx hm1.1).mono (fun r d' g => ⟨g.1, mo_st hm1 g.2.1 g.2.2 (by decide +kernel), g.2.2⟩)) (by decide +kernel)
  have g2 := g.2.2.mono (hp_c hn)
  exact ⟨g.1, cl_st hc g.2.1 g2 (by decide +kernel) (by decide +kernel), g2⟩
theorem p_letter (x y z : Int32) (h : inv d) : pair l W mX11_letter mX12_letter [.int x, .int y, .int z] d := by
  obtain ⟨σ, bs, sts, tb, mv, hc, hm⟩ := h
  rcases hx : hN x with _ | n
  · exact pr_e hc hm (ch (s_X11_letterO (dep := 10) hx)) (by decide +kernel) (fun d1 hm1 => cd (s_X12_letterO (dep := 9) hx)) (by decide +kernel)
  by_cases e : y < 0 ∨ z < 0 ∨ nI 1 < z
  · exact pr_e hc hm (ch (s_X11_letterW (dep := 10) hx e)) (by decide +kernel) (fun d1 hm1 => cd (s_X12_letterW (dep := 9) hx e)) (by decide +kernel)
  obtain ⟨i, hi, rfl⟩ := nI_of (fun q => e (Or.inl q))
  obtain ⟨m, hm0, rfl⟩ := rng0 (by omega) (fun q => e (Or.inr q))
  exact pr_e hc hm (s_X11_letter (dep := 8) hx hi hm0 hc.1) (by decide +kernel) (fun d1 hm1 => ck (s_X12_letter (dep := 7) hx hi hm0 hm1.1) (by decide +kernel)) (by decide +kernel)
theorem p_same (x y : Int32) (h : inv d) : pair l W mX11_same mX12_same [.int x, .int y] d := by
  obtain ⟨σ, bs, sts, tb, mv, hc, hm⟩ := h
  rcases hx : hN x with _ | n
  · exact pr_e hc hm (ch (s_X11_sameO (dep := 10) (Or.inl hx))) (by decide +kernel) (fun d1 hm1 => cd (s_X12_sameO (dep := 9) (Or.inl hx))) (by decide +kernel)
  rcases hy : hN y with _ | n2
  · exact pr_e hc hm (ch (s_X11_sameO (dep := 10) (Or.inr hy))) (by decide +kernel) (fun d1 hm1 => cd (s_X12_sameO (dep := 9) (Or.inr hy))) (by decide +kernel)
  exact pr_e hc hm (ch (s_X11_same (dep := 6) hx hy hc.1)) (by decide +kernel) (fun d1 hm1 => cd (s_X12_same (dep := 9) hx hy hm1.1)) (by decide +kernel)
theorem p_apart (x y : Int32) (h : inv d) : pair l W mX11_apart mX12_apart [.int x, .int y] d := by
  obtain ⟨σ, bs, sts, tb, mv, hc, hm⟩ := h
  rcases hx : hN x with _ | n
  · exact pr_e hc hm (ch (s_X11_apartO (dep := 10) (Or.inl hx))) (by decide +kernel) (fun d1 hm1 => cd (s_X12_apartO (dep := 9) (Or.inl hx))) (by decide +kernel)
  rcases hy : hN y with _ | n2
  · exact pr_e hc hm (ch (s_X11_apartO (dep := 10) (Or.inr hy))) (by decide +kernel) (fun d1 hm1 => cd (s_X12_apartO (dep := 9) (Or.inr hy))) (by decide +kernel)
  exact pr_a (A := apIs σ.1 (unl σ.1 σ.2.1 (σ.2.2 n) (σ.2.2 n2))) (fun _ _ a b => a.uniq b) hc hm (ch (s_X11_apart (dep := 7) hx hy hc.1)) (by decide +kernel) (fun d1 hm1 => cd (s_X12_apart (dep := 9) hx hy hm1.1)) (by decide +kernel)
theorem p_layer (x y : Int32) (h : inv d) : pair l W mX11_layer mX12_layer [.int x, .int y] d := by
  obtain ⟨σ, bs, sts, tb, mv, hc, hm⟩ := h
  rcases hx : hN x with _ | n
  · exact pr_e hc hm (ch (s_X11_layerO (dep := 10) hx)) (by decide +kernel) (fun d1 hm1 => cd (s_X12_layerO (dep := 9) hx)) (by decide +kernel)
  by_cases hy : y < -1
  · exact pr_e hc hm (ch (s_X11_layerN (dep := 10) hy hx)) (by decide +kernel) (fun d1 hm1 => cd (s_X12_layerN (dep := 9) hy hx)) (by decide +kernel)
  by_cases hy1 : y = -1
  · subst hy1
    exact pr_e hc hm (s_X11_layerM (dep := 6) hx hc.1) (by decide +kernel) (fun d1 hm1 => ck (s_X12_layerM (dep := 7) hx hm1.1) (by decide +kernel)) (by decide +kernel)
  obtain ⟨m, hm0, rfl⟩ := nI_of (ge_m1 hy hy1)
  exact pr_e hc hm (s_X11_layer (dep := 6) hm0 hx hc.1) (by decide +kernel) (fun d1 hm1 => ck (s_X12_layer (dep := 7) hm0 hx hm1.1) (by decide +kernel)) (by decide +kernel)
theorem p_part (x y : Int32) (h : inv d) : pair l W mX11_part mX12_part [.int x, .int y] d := by
  obtain ⟨σ, bs, sts, tb, mv, hc, hm⟩ := h
  rcases hx : hN x with _ | n
  · exact pr_e hc hm (ch (s_X11_partO (dep := 10) hx)) (by decide +kernel) (fun d1 hm1 => cd (s_X12_partO (dep := 9) hx)) (by decide +kernel)
  by_cases hy : y < -1
  · exact pr_e hc hm (ch (s_X11_partN (dep := 10) hy hx)) (by decide +kernel) (fun d1 hm1 => cd (s_X12_partN (dep := 9) hy hx)) (by decide +kernel)
  by_cases hy1 : y = -1
  · subst hy1
    exact pr_e hc hm (ch (s_X11_partM (dep := 8) hx hc.1)) (by decide +kernel) (fun d1 hm1 => cd (s_X12_partM (dep := 9) hx hm1.1)) (by decide +kernel)
  obtain ⟨m, hm0, rfl⟩ := nI_of (ge_m1 hy hy1)
  exact pr_e hc hm (ch (s_X11_part (dep := 8) hm0 hx hc.1)) (by decide +kernel) (fun d1 hm1 => cd (s_X12_part (dep := 9) hm0 hx hm1.1)) (by decide +kernel)
theorem p_ahead (x y z : Int32) (h : inv d) : pair l W mX11_ahead mX12_ahead [.int x, .int y, .int z] d := by
  obtain ⟨σ, bs, sts, tb, mv, hc, hm⟩ := h
  rcases hx : hN x with _ | n
  · exact pr_e hc hm (ch (s_X11_aheadH (dep := 10) hx)) (by decide +kernel) (fun d1 hm1 => cd (s_X12_aheadH (dep := 9) hx)) (by decide +kernel)
  by_cases ey : y < 0
  · exact pr_e hc hm (ch (s_X11_aheadA (dep := 10) hx (Or.inl ey) hc.1)) (by decide +kernel) (fun d1 hm1 => cd (s_X12_aheadA (dep := 9) hx (Or.inl ey) hm1.1)) (by decide +kernel)
  obtain ⟨a, ha, rfl⟩ := nI_of ey
  by_cases ea : a < (σ.2.2 n).length
  · by_cases ez : z < 0
    · exact pr_e hc hm (ch (s_X11_aheadB (dep := 10) hx ea (Or.inl ez) hc.1)) (by decide +kernel) (fun d1 hm1 => cd (s_X12_aheadB (dep := 9) hx ea (Or.inl ez) hm1.1)) (by decide +kernel)
    obtain ⟨b, hb, rfl⟩ := nI_of ez
    by_cases eb : b < (σ.2.2 n).length
    · exact pr_e hc hm (ch (s_X11_ahead (dep := 9) hx ea eb hc.1)) (by decide +kernel) (fun d1 hm1 => ck (s_X12_ahead (dep := 9) hx ea eb hm1.1) (by decide +kernel)) (by decide +kernel)
    · exact pr_e hc hm (ch (s_X11_aheadB (dep := 10) hx ea (Or.inr ⟨b, hb, rfl, by omega⟩) hc.1)) (by decide +kernel) (fun d1 hm1 => cd (s_X12_aheadB (dep := 9) hx ea (Or.inr ⟨b, hb, rfl, by omega⟩) hm1.1)) (by decide +kernel)
  · exact pr_e hc hm (ch (s_X11_aheadA (dep := 10) hx (Or.inr ⟨a, ha, rfl, by omega⟩) hc.1)) (by decide +kernel) (fun d1 hm1 => cd (s_X12_aheadA (dep := 9) hx (Or.inr ⟨a, ha, rfl, by omega⟩) hm1.1)) (by decide +kernel)
theorem p_begins (x y : Int32) (h : inv d) : pair l W mX11_begins mX12_begins [.int x, .int y] d := by
  obtain ⟨σ, bs, sts, tb, mv, hc, hm⟩ := h
  rcases hx : hN x with _ | n
  · exact pr_e hc hm (ch (s_X11_beginsO (dep := 10) hx)) (by decide +kernel) (fun d1 hm1 => cd (s_X12_beginsO (dep := 9) hx)) (by decide +kernel)
  by_cases hy : y < 0 ∨ nI 2 < y
  · exact pr_e hc hm (ch (s_X11_beginsW (dep := 10) hx hy)) (by decide +kernel) (fun d1 hm1 => cd (s_X12_beginsW (dep := 9) hx hy)) (by decide +kernel)
  obtain ⟨m, hm0, rfl⟩ := rng0 (by omega) hy
  exact pr_e hc hm (s_X11_begins (dep := 7) hm0 hx hc.1) (by decide +kernel) (fun d1 hm1 => s_X12_begins (dep := 8) hm0 hx hm1.1) (by decide +kernel)
theorem p_join (x y z : Int32) (h : inv d) : pair l W mX11_join mX12_join [.int x, .int y, .int z] d := by
  obtain ⟨σ, bs, sts, tb, mv, hc, hm⟩ := h
  rcases hx : hN x with _ | n
  · exact pr_e hc hm (ch (s_X11_joinO (dep := 10) (Or.inl hx))) (by decide +kernel) (fun d1 hm1 => cd (s_X12_joinO (dep := 8) (Or.inl hx))) (by decide +kernel)
  rcases hy : hN y with _ | n2
  · exact pr_e hc hm (ch (s_X11_joinO (dep := 10) (Or.inr (Or.inl hy)))) (by decide +kernel) (fun d1 hm1 => cd (s_X12_joinO (dep := 8) (Or.inr (Or.inl hy)))) (by decide +kernel)
  rcases hz : hN z with _ | n3
  · exact pr_e hc hm (ch (s_X11_joinO (dep := 10) (Or.inr (Or.inr hz)))) (by decide +kernel) (fun d1 hm1 => cd (s_X12_joinO (dep := 8) (Or.inr (Or.inr hz)))) (by decide +kernel)
  by_cases hl : (σ.2.2 n).length + (σ.2.2 n2).length ≤ 24
  · refine pr_s (nI ((σ.2.2 n).length + (σ.2.2 n2).length)) (setH σ n3 (leastR (bw σ.1 σ.2.1) (σ.2.2 n ++ σ.2.2 n2))) bs sts tb mv hm (S := pairC) (S' := moPC) ((s_X11_join (dep := 6) hx hy hz hc.1).mono (fun r d' g => ?_)) (by decide +kernel) (fun d1 hm1 => (s_X12_join (dep := 7) hx hy hz hm1.1).mono (fun r d' g => ?_)) (by decide +kernel)
    · obtain ⟨⟨-, e1, e2⟩ | ⟨e0, -⟩, g⟩ := g
      · exact ⟨e1, cl_st hc e2 g (by decide +kernel) (by decide +kernel), g⟩
      · exact absurd hl e0
    · obtain ⟨⟨-, e1, e2⟩ | ⟨e0, -⟩, g⟩ := g
      · exact ⟨e1, mo_st hm1 e2 g (by decide +kernel), g⟩
      · exact absurd hl e0
  · refine pr_s (-5) σ bs sts tb mv hm (S := pairC) (S' := moPC) ((s_X11_join (dep := 6) hx hy hz hc.1).mono (fun r d' g => ?_)) (by decide +kernel) (fun d1 hm1 => (s_X12_join (dep := 7) hx hy hz hm1.1).mono (fun r d' g => ?_)) (by decide +kernel)
    · obtain ⟨⟨e0, -⟩ | ⟨-, e1, e2⟩, g⟩ := g
      · exact absurd e0 hl
      · exact ⟨e1, cl_st hc e2 g (by decide +kernel) (by decide +kernel), g⟩
    · obtain ⟨⟨e0, -⟩ | ⟨-, e1, e2⟩, g⟩ := g
      · exact absurd e0 hl
      · exact ⟨e1, mo_st hm1 e2 g (by decide +kernel), g⟩
theorem p_left (x y z : Int32) (h : inv d) : pair l W mX11_left mX12_left [.int x, .int y, .int z] d := by
  obtain ⟨σ, bs, sts, tb, mv, hc, hm⟩ := h
  rcases hx : hN x with _ | n
  · exact pr_e hc hm (ch (s_X11_leftO (dep := 10) (Or.inl hx))) (by decide +kernel) (fun d1 hm1 => cd (s_X12_leftO (dep := 8) (Or.inl hx))) (by decide +kernel)
  rcases hy : hN y with _ | n2
  · exact pr_e hc hm (ch (s_X11_leftO (dep := 10) (Or.inr (Or.inl hy)))) (by decide +kernel) (fun d1 hm1 => cd (s_X12_leftO (dep := 8) (Or.inr (Or.inl hy)))) (by decide +kernel)
  rcases hz : hN z with _ | n3
  · exact pr_e hc hm (ch (s_X11_leftO (dep := 10) (Or.inr (Or.inr hz)))) (by decide +kernel) (fun d1 hm1 => cd (s_X12_leftO (dep := 8) (Or.inr (Or.inr hz)))) (by decide +kernel)
  rcases hl : tkL (bw σ.1 σ.2.1) (σ.2.2 n2) (σ.2.2 n) with _ | zs
  · refine pr_s (-4) σ bs sts tb mv hm (S := pairC) (S' := moPC) ((s_X11_left (dep := 6) hx hy hz hc.1).mono (fun r d' g => ?_)) (by decide +kernel) (fun d1 hm1 => (s_X12_left (dep := 7) hx hy hz hm1.1).mono (fun r d' g => ?_)) (by decide +kernel)
    · obtain ⟨⟨zs, e0, -⟩ | ⟨-, e1, e2⟩, g⟩ := g
      · exact absurd (hl.symm.trans e0) (by simp)
      · exact ⟨e1, cl_st hc e2 g (by decide +kernel) (by decide +kernel), g⟩
    · obtain ⟨⟨zs, e0, -⟩ | ⟨-, e1, e2⟩, g⟩ := g
      · exact absurd (hl.symm.trans e0) (by simp)
      · exact ⟨e1, mo_st hm1 e2 g (by decide +kernel), g⟩
  · refine pr_s (nI zs.length) (setH σ n3 (leastR (bw σ.1 σ.2.1) zs)) bs sts tb mv hm (S := pairC) (S' := moPC) ((s_X11_left (dep := 6) hx hy hz hc.1).mono (fun r d' g => ?_)) (by decide +kernel) (fun d1 hm1 => (s_X12_left (dep := 7) hx hy hz hm1.1).mono (fun r d' g => ?_)) (by decide +kernel)
    · obtain ⟨⟨ws, e0, e1, e2⟩ | ⟨e0, -⟩, g⟩ := g
      · exact (by cases Option.some.inj (hl.symm.trans e0); exact ⟨e1, cl_st hc e2 g (by decide +kernel) (by decide +kernel), g⟩)
      · exact absurd (hl.symm.trans e0) (by simp)
    · obtain ⟨⟨ws, e0, e1, e2⟩ | ⟨e0, -⟩, g⟩ := g
      · exact (by cases Option.some.inj (hl.symm.trans e0); exact ⟨e1, mo_st hm1 e2 g (by decide +kernel), g⟩)
      · exact absurd (hl.symm.trans e0) (by simp)
theorem p_shared (x y z : Int32) (h : inv d) : pair l W mX11_shared mX12_shared [.int x, .int y, .int z] d := by
  obtain ⟨σ, bs, sts, tb, mv, hc, hm⟩ := h
  rcases hx : hN x with _ | n
  · exact pr_e hc hm (ch (s_X11_sharedO (dep := 10) (Or.inl hx))) (by decide +kernel) (fun d1 hm1 => cd (s_X12_sharedO (dep := 8) (Or.inl hx))) (by decide +kernel)
  rcases hy : hN y with _ | n2
  · exact pr_e hc hm (ch (s_X11_sharedO (dep := 10) (Or.inr (Or.inl hy)))) (by decide +kernel) (fun d1 hm1 => cd (s_X12_sharedO (dep := 8) (Or.inr (Or.inl hy)))) (by decide +kernel)
  rcases hz : hN z with _ | n3
  · exact pr_e hc hm (ch (s_X11_sharedO (dep := 10) (Or.inr (Or.inr hz)))) (by decide +kernel) (fun d1 hm1 => cd (s_X12_sharedO (dep := 8) (Or.inr (Or.inr hz)))) (by decide +kernel)
  exact pr_s (nI (splitF (bw σ.1 σ.2.1) σ.1 24 [] (σ.2.2 n) (σ.2.2 n2)).1.length) (setH σ n3 (leastR (bw σ.1 σ.2.1) (splitF (bw σ.1 σ.2.1) σ.1 24 [] (σ.2.2 n) (σ.2.2 n2)).1)) bs sts tb mv hm (S := pairC) (S' := moPC) ((s_X11_shared (dep := 5) hx hy hz hc.1).mono (fun r d' g => ⟨g.1, cl_st hc g.2.1 g.2.2 (by decide +kernel) (by decide +kernel), g.2.2⟩)) (by decide +kernel) (fun d1 hm1 => (s_X12_shared (dep := 7) hx hy hz hm1.1).mono (fun r d' g => ⟨g.1, mo_st hm1 g.2.1 g.2.2 (by decide +kernel), g.2.2⟩)) (by decide +kernel)
theorem p_both (x y z : Int32) (h : inv d) : pair l W mX11_both mX12_both [.int x, .int y, .int z] d := by
  obtain ⟨σ, bs, sts, tb, mv, hc, hm⟩ := h
  rcases hx : hN x with _ | n
  · exact pr_e hc hm (ch (s_X11_bothO (dep := 10) (Or.inl hx))) (by decide +kernel) (fun d1 hm1 => cd (s_X12_bothO (dep := 8) (Or.inl hx))) (by decide +kernel)
  rcases hy : hN y with _ | n2
  · exact pr_e hc hm (ch (s_X11_bothO (dep := 10) (Or.inr (Or.inl hy)))) (by decide +kernel) (fun d1 hm1 => cd (s_X12_bothO (dep := 8) (Or.inr (Or.inl hy)))) (by decide +kernel)
  rcases hz : hN z with _ | n3
  · exact pr_e hc hm (ch (s_X11_bothO (dep := 10) (Or.inr (Or.inr hz)))) (by decide +kernel) (fun d1 hm1 => cd (s_X12_bothO (dep := 8) (Or.inr (Or.inr hz)))) (by decide +kernel)
  obtain ⟨cs, us, vs, hsp⟩ : ∃ cs us vs, splitF (bw σ.1 σ.2.1) σ.1 24 [] (σ.2.2 n) (σ.2.2 n2) = (cs, us, vs) := ⟨_, _, _, rfl⟩
  rcases hf : allFr σ.1 σ.2.1 us vs with _ | _
  · refine pr_s (-4) σ bs sts tb mv hm (S := pairC) (S' := moPC) ((s_X11_both (dep := 5) hsp hx hy hz hc.1).mono (fun r d' g => ?_)) (by decide +kernel) (fun d1 hm1 => (s_X12_both (dep := 7) hsp hx hy hz hm1.1).mono (fun r d' g => ?_)) (by decide +kernel)
    · obtain ⟨⟨-, e1, e2⟩ | ⟨e0, -⟩ | ⟨e0, -⟩, g⟩ := g
      · exact ⟨e1, cl_st hc e2 g (by decide +kernel) (by decide +kernel), g⟩
      · exact absurd (hf.symm.trans e0) (by simp)
      · exact absurd (hf.symm.trans e0) (by simp)
    · obtain ⟨⟨-, e1, e2⟩ | ⟨e0, -⟩ | ⟨e0, -⟩, g⟩ := g
      · exact ⟨e1, mo_st hm1 e2 g (by decide +kernel), g⟩
      · exact absurd (hf.symm.trans e0) (by simp)
      · exact absurd (hf.symm.trans e0) (by simp)
  · by_cases hl : cs.length + us.length + vs.length ≤ 24
    · refine pr_s (nI (cs.length + us.length + vs.length)) (setH σ n3 (leastR (bw σ.1 σ.2.1) (cs ++ us ++ vs))) bs sts tb mv hm (S := pairC) (S' := moPC) ((s_X11_both (dep := 5) hsp hx hy hz hc.1).mono (fun r d' g => ?_)) (by decide +kernel) (fun d1 hm1 => (s_X12_both (dep := 7) hsp hx hy hz hm1.1).mono (fun r d' g => ?_)) (by decide +kernel)
      · obtain ⟨⟨e0, -⟩ | ⟨-, e0, -⟩ | ⟨-, -, e1, e2⟩, g⟩ := g
        · exact absurd (hf.symm.trans e0) (by simp)
        · exact absurd hl e0
        · exact ⟨e1, cl_st hc e2 g (by decide +kernel) (by decide +kernel), g⟩
      · obtain ⟨⟨e0, -⟩ | ⟨-, e0, -⟩ | ⟨-, -, e1, e2⟩, g⟩ := g
        · exact absurd (hf.symm.trans e0) (by simp)
        · exact absurd hl e0
        · exact ⟨e1, mo_st hm1 e2 g (by decide +kernel), g⟩
    · refine pr_s (-5) σ bs sts tb mv hm (S := pairC) (S' := moPC) ((s_X11_both (dep := 5) hsp hx hy hz hc.1).mono (fun r d' g => ?_)) (by decide +kernel) (fun d1 hm1 => (s_X12_both (dep := 7) hsp hx hy hz hm1.1).mono (fun r d' g => ?_)) (by decide +kernel)
      · obtain ⟨⟨e0, -⟩ | ⟨-, -, e1, e2⟩ | ⟨-, e0, -⟩, g⟩ := g
        · exact absurd (hf.symm.trans e0) (by simp)
        · exact ⟨e1, cl_st hc e2 g (by decide +kernel) (by decide +kernel), g⟩
        · exact absurd e0 hl
      · obtain ⟨⟨e0, -⟩ | ⟨-, -, e1, e2⟩ | ⟨-, e0, -⟩, g⟩ := g
        · exact absurd (hf.symm.trans e0) (by simp)
        · exact ⟨e1, mo_st hm1 e2 g (by decide +kernel), g⟩
        · exact absurd e0 hl
theorem p_root (x : Int32) (h : inv d) : pair l W mX11_root mX12_root [.int x] d := by
  obtain ⟨σ, bs, sts, tb, mv, hc, hm⟩ := h
  rcases hx : hN x with _ | n
  · exact pr_e hc hm (ch (s_X11_rootO (dep := 10) hx)) (by decide +kernel) (fun d1 hm1 => cd (s_X12_rootO (dep := 9) hx)) (by decide +kernel)
  exact pr_e hc hm (s_X11_root (dep := 5) hx hc.1) (by decide +kernel) (fun d1 hm1 => ck (s_X12_root (dep := 8) hx hm1.1) (by decide +kernel)) (by decide +kernel)
theorem p_circle (x : Int32) (h : inv d) : pair l W mX11_circle mX12_circle [.int x] d := by
  obtain ⟨σ, bs, sts, tb, mv, hc, hm⟩ := h
  rcases hx : hN x with _ | n
  · exact pr_e hc hm (ch (s_X11_circleO (dep := 10) hx)) (by decide +kernel) (fun d1 hm1 => cd (s_X12_circleO (dep := 9) hx)) (by decide +kernel)
  by_cases hl : (σ.2.2 n).length ≤ 12
  · exact pr_e hc hm (s_X11_circle (dep := 5) hx hc.1 hl) (by decide +kernel) (fun d1 hm1 => s_X12_circle (dep := 6) hx hm1.1 hl) (by decide +kernel)
  · exact pr_e hc hm (ch (s_X11_circleL (dep := 10) hx hc.1 hl)) (by decide +kernel) (fun d1 hm1 => cd (s_X12_circleL (dep := 9) hx hm1.1 hl)) (by decide +kernel)
theorem p_turned (x y : Int32) (h : inv d) : pair l W mX11_turned mX12_turned [.int x, .int y] d := by
  obtain ⟨σ, bs, sts, tb, mv, hc, hm⟩ := h
  rcases hx : hN x with _ | n
  · exact pr_e hc hm (ch (s_X11_turnedO (dep := 10) (Or.inl hx))) (by decide +kernel) (fun d1 hm1 => cd (s_X12_turnedO (dep := 9) (Or.inl hx))) (by decide +kernel)
  rcases hy : hN y with _ | n2
  · exact pr_e hc hm (ch (s_X11_turnedO (dep := 10) (Or.inr hy))) (by decide +kernel) (fun d1 hm1 => cd (s_X12_turnedO (dep := 9) (Or.inr hy))) (by decide +kernel)
  by_cases hl : (σ.2.2 n).length ≤ 12
  · exact pr_e hc hm (s_X11_turned (dep := 5) hx hy hc.1 hl) (by decide +kernel) (fun d1 hm1 => s_X12_turned (dep := 6) hx hy hm1.1 hl) (by decide +kernel)
  · exact pr_e hc hm (ch (s_X11_turnedL (dep := 10) hx hy hc.1 hl)) (by decide +kernel) (fun d1 hm1 => cd (s_X12_turnedL (dep := 9) hx hy hm1.1 hl)) (by decide +kernel)
theorem p_together (y : Int32) (h : inv d) : pair l W mX11_together mX12_together [.int y] d := by
  obtain ⟨σ, bs, sts, tb, mv, hc, hm⟩ := h
  by_cases hy : y < 0 ∨ nI 6 < y
  · exact pr_e hc hm (ch (s_X11_togetherO (dep := 10) hy)) (by decide +kernel) (fun d1 hm1 => cd (s_X12_togetherO (dep := 10) hy)) (by decide +kernel)
  obtain ⟨m, hm0, rfl⟩ := rng0 (by omega) hy
  exact pr_e hc hm (ch (s_X11_together (dep := 8) hm0 hc.1)) (by decide +kernel) (fun d1 hm1 => cd (s_X12_together (dep := 10) hm0 hm1.1)) (by decide +kernel)
theorem p_many (y : Int32) (h : inv d) : pair l W mX11_many mX12_many [.int y] d := by
  obtain ⟨σ, bs, sts, tb, mv, hc, hm⟩ := h
  by_cases hy : y < 0 ∨ nI 60 < y
  · exact pr_e hc hm (ch (s_X11_manyO (dep := 10) hy)) (by decide +kernel) (fun d1 hm1 => cd (s_X12_manyO (dep := 10) hy)) (by decide +kernel)
  obtain ⟨m, hm0, rfl⟩ := rng0 (by omega) hy
  exact pr_e hc hm (s_X11_many (dep := 7) hm0 hc.1) (by decide +kernel) (fun d1 hm1 => ck (s_X12_many (dep := 10) hm0 hm1.1) (by decide +kernel)) (by decide +kernel)
theorem p_of (y z w : Int32) (h : inv d) : pair l W mX11_of mX12_of [.int y, .int z, .int w] d := by
  obtain ⟨σ, bs, sts, tb, mv, hc, hm⟩ := h
  by_cases e : y < 0 ∨ nI 20 < y ∨ z < 0 ∨ w < 0
  · exact pr_e hc hm (ch (s_X11_ofO (dep := 10) e)) (by decide +kernel) (fun d1 hm1 => cd (s_X12_ofO (dep := 10) e)) (by decide +kernel)
  obtain ⟨m, hm0, rfl⟩ := rng0 (x := y) (b := 20) (by omega) (fun q => e (q.elim Or.inl (fun z => Or.inr (Or.inl z))))
  obtain ⟨i, hi, rfl⟩ := nI_of (fun q => e (Or.inr (Or.inr (Or.inl q))))
  obtain ⟨p, hp, rfl⟩ := nI_of (fun q => e (Or.inr (Or.inr (Or.inr q))))
  exact pr_e hc hm (s_X11_of (dep := 5) hm0 hi hp hc.1) (by decide +kernel) (fun d1 hm1 => ck (s_X12_of (dep := 9) hm0 hi hp hm1.1) (by decide +kernel)) (by decide +kernel)
theorem p_place (x : Int32) (h : inv d) : pair l W mX11_place mX12_place [.int x] d := by
  obtain ⟨σ, bs, sts, tb, mv, hc, hm⟩ := h
  rcases hx : hN x with _ | n
  · exact pr_e hc hm (ch (s_X11_placeO (dep := 10) hx)) (by decide +kernel) (fun d1 hm1 => cd (s_X12_placeO (dep := 9) hx)) (by decide +kernel)
  by_cases hl : (σ.2.2 n).length ≤ 20
  · exact pr_e hc hm (s_X11_place (dep := 5) hx hc.1 hl) (by decide +kernel) (fun d1 hm1 => ck (s_X12_place (dep := 7) hx hm1.1 hl) (by decide +kernel)) (by decide +kernel)
  · exact pr_e hc hm (ch (s_X11_placeL (dep := 10) hx hc.1 hl)) (by decide +kernel) (fun d1 hm1 => cd (s_X12_placeL (dep := 9) hx hm1.1 hl)) (by decide +kernel)
theorem p_reader (x y : Int32) (h : inv d) : pair l W mX11_reader mX12_reader [.int x, .int y] d := by
  obtain ⟨σ, bs, sts, tb, mv, hc, hm⟩ := h
  by_cases e : x < nI 1 ∨ nI 5 < x ∨ y < 0
  · exact pr_e hc hm (ch (s_X11_readerO (dep := 10) e)) (by decide +kernel) (fun d1 hm1 => cd (s_X12_readerO (dep := 10) e)) (by decide +kernel)
  obtain ⟨a, h1, h5, rfl⟩ := rng (x := x) (a := 1) (b := 5) (by omega) (by omega) (fun q => e (q.elim Or.inl (fun z => Or.inr (Or.inl z))))
  obtain ⟨t, ht, rfl⟩ := nI_of (fun q => e (Or.inr (Or.inr q)))
  by_cases hl : t < 2 ^ a
  · obtain ⟨zz, hz⟩ := hc.2.2.2
    refine pr_s 1 σ bs a t (fun s _ => s) hm (S := [66, 70, 71, 72, 73, 74]) (S' := [240, 261]) ((s_X11_reader (dep := 9) h1 h5 hl hz).mono (fun r d' g => ?_)) (by decide +kernel) (fun d1 hm1 => (s_X12_reader (dep := 10) h1 h5 hl).mono (fun r d' g => ?_)) (by decide +kernel)
    · obtain ⟨e1, e2, e3, g⟩ := g
      exact ⟨e1, ⟨st_av hc.1 g (by decide +kernel), tx_av hc.2.1 g (by decide +kernel), e2, _, e3⟩, g⟩
    · obtain ⟨e1, e2, e3, g⟩ := g
      exact ⟨e1, ⟨most hm1.1 e3.1 g (by decide +kernel), motx hm1.2.1 e3.2 (g 244 (by decide)).1, e2⟩, g⟩
  · exact pr_e hc hm (ch (s_X11_readerB (dep := 10) h1 h5 ht (Nat.not_lt.mp hl))) (by decide +kernel) (fun d1 hm1 => cd (s_X12_readerB (dep := 10) h1 h5 ht (Nat.not_lt.mp hl))) (by decide +kernel)
theorem p_move (x y z : Int32) (h : inv d) : pair l W mX11_move mX12_move [.int x, .int y, .int z] d := by
  obtain ⟨σ, bs, sts, tb, mv, hc, hm⟩ := h
  have h5 := hc.2.2.1.2.2.2.1
  rcases pk_ix x (n := sts) (by omega) with e | e | ⟨a, ha, rfl⟩
  · exact pr_e hc hm (ch (s_X11_moveA (dep := 10) (Or.inl e) hc.2.2.1)) (by decide +kernel) (fun d1 hm1 => cd (s_X12_moveA (dep := 10) (Or.inl e) hm1.2.2)) (by decide +kernel)
  · exact pr_e hc hm (ch (s_X11_moveA (dep := 10) (Or.inr e) hc.2.2.1)) (by decide +kernel) (fun d1 hm1 => cd (s_X12_moveA (dep := 10) (Or.inr e) hm1.2.2)) (by decide +kernel)
  rcases pk_ix z (n := sts) (by omega) with e | e | ⟨b, hb, rfl⟩
  · exact pr_e hc hm (ch (s_X11_moveB (dep := 10) ha (Or.inl e) hc.2.2.1)) (by decide +kernel) (fun d1 hm1 => cd (s_X12_moveB (dep := 10) ha (Or.inl e) hm1.2.2)) (by decide +kernel)
  · exact pr_e hc hm (ch (s_X11_moveB (dep := 10) ha (Or.inr e) hc.2.2.1)) (by decide +kernel) (fun d1 hm1 => cd (s_X12_moveB (dep := 10) ha (Or.inr e) hm1.2.2)) (by decide +kernel)
  rcases pk_ix y (n := 6) (by omega) with e | e | ⟨p, hp, rfl⟩
  · exact pr_e hc hm (ch (s_X11_moveC (dep := 10) ha hb (Or.inl e) hc.2.2.1)) (by decide +kernel) (fun d1 hm1 => cd (s_X12_moveC (dep := 10) ha hb (Or.inl e) hm1.2.2)) (by decide +kernel)
  · exact pr_e hc hm (ch (s_X11_moveC (dep := 10) ha hb (Or.inr e) hc.2.2.1)) (by decide +kernel) (fun d1 hm1 => cd (s_X12_moveC (dep := 10) ha hb (Or.inr e) hm1.2.2)) (by decide +kernel)
  refine pr_s (nI (mv a p)) σ bs sts tb (fun s' p' => if s' = a ∧ p' = p then b else mv s' p') hm (S := [70, 71, 72, 73, 74]) (S' := [261]) ((s_X11_move (dep := 10) ha hb hp hc.2.2.1).mono (fun r d' g => ?_)) (by decide +kernel) (fun d1 hm1 => (s_X12_move (dep := 10) ha hb hp hm1.2.2).mono (fun r d' g => ?_)) (by decide +kernel)
  · obtain ⟨e1, e2, g⟩ := g
    have g1 : d'.1 66 = d.1 66 := (g 66 (by simp only [List.mem_cons, List.not_mem_nil, or_false]; omega)).1
    have g := g.mono (mv_c (n := a) (by omega))
    exact ⟨e1, ⟨st_av hc.1 g (by decide +kernel), tx_av hc.2.1 g (by decide +kernel), e2, hc.2.2.2.imp (fun z hz => by unfold ptIs; rw [g1]; exact hz)⟩, g⟩
  · obtain ⟨e1, e2, g⟩ := g
    exact ⟨e1, ⟨most hm1.1 (by rw [(g 240 (by decide)).1]) g (by decide +kernel), motx hm1.2.1 (by rw [(g 240 (by decide)).1]) (g 244 (by decide)).1, e2⟩, g⟩
theorem p_minds (h : inv d) : pair l W mX11_minds mX12_minds [] d := by
  obtain ⟨σ, bs, sts, tb, mv, hc, hm⟩ := h
  exact pr_a (A := fun r => (∃ N, r = nI N ∧ mdN σ.1 sts σ.2.1 mv N ∧ ∀ M, M < N → ¬ mdN σ.1 sts σ.2.1 mv M) ∨ (r = -1 ∧ ∀ M, ¬ mdN σ.1 sts σ.2.1 mv M)) (fun _ _ a b => mind_u a b) hc hm (ch (s_X11_minds (dep := 8) hc.1 hc.2.2.1)) (by decide +kernel) (fun d1 hm1 => cd (s_X12_minds (dep := 10) hm1.1 hm1.2.2)) (by decide +kernel)
theorem p_run (x y : Int32) (h : inv d) : pair l W mX11_run mX12_run [.int x, .int y] d := by
  obtain ⟨σ, bs, sts, tb, mv, hc, hm⟩ := h
  rcases hx : hN x with _ | n
  · exact pr_e hc hm (ch (s_X11_runO (dep := 10) hx)) (by decide +kernel) (fun d1 hm1 => cd (s_X12_runO (dep := 9) hx)) (by decide +kernel)
  by_cases hy : y < 0 ∨ nI 1 < y
  · exact pr_e hc hm (ch (s_X11_runW (dep := 10) hx hy)) (by decide +kernel) (fun d1 hm1 => cd (s_X12_runW (dep := 9) hx hy)) (by decide +kernel)
  obtain ⟨m, hm0, rfl⟩ := rng0 (by omega) hy
  exact pr_e hc hm (s_X11_run (dep := 7) hx hm0 hc.1 hc.2.2.1) (by decide +kernel) (fun d1 hm1 => ck (s_X12_run (dep := 7) hx hm0 hm1.1 hm1.2.2) (by decide +kernel)) (by decide +kernel)
theorem p_taken (y : Int32) (h : inv d) : pair l W mX11_taken mX12_taken [.int y] d := by
  obtain ⟨σ, bs, sts, tb, mv, hc, hm⟩ := h
  by_cases hy : y < 0 ∨ nI 60 < y
  · exact pr_e hc hm (ch (s_X11_takenO (dep := 10) hy)) (by decide +kernel) (fun d1 hm1 => cd (s_X12_takenO (dep := 10) hy)) (by decide +kernel)
  obtain ⟨m, hm0, rfl⟩ := rng0 (by omega) hy
  obtain ⟨zz, hz⟩ := hc.2.2.2
  refine pr_s (nI (smT sts tb (tkT σ.1 sts σ.2.1 mv m) 320 % 1000000007)) σ bs sts tb mv hm (S := tknC) (S' := [240, 258, 259]) ((s_X11_taken (dep := 7) hm0 hc.1 hc.2.2.1 hz).mono (fun r d' g => ?_)) (by decide +kernel) (fun d1 hm1 => (s_X12_taken (dep := 10) hm0 hm1.1 hm1.2.2).mono (fun r d' g => ?_)) (by decide +kernel)
  · obtain ⟨e1, e2, e3, g⟩ := g
    exact ⟨e1, ⟨st_av hc.1 g (by decide +kernel), tx_av hc.2.1 g (by decide +kernel), e2, e3⟩, g⟩
  · have g2 := chK.of g.2 (by decide +kernel)
    exact ⟨g.1, mo_K hm1 g2 (by decide +kernel), g2.1⟩
theorem p_count (x : Int32) (h : inv d) : pair l W mX11_count mX12_count [.int x] d := by
  obtain ⟨σ, bs, sts, tb, mv, hc, hm⟩ := h
  by_cases e : x < 0
  · exact pr_e hc hm (ch (s_X11_countM (dep := 9) e)) (by decide +kernel) (fun d1 hm1 => cd (s_X12_countM (dep := 10) e)) (by decide +kernel)
  obtain ⟨m, hm0, rfl⟩ := nI_of e
  by_cases e7 : 7 ≤ m
  · exact pr_e hc hm (ch (s_X11_countO (dep := 9) e7 hm0)) (by decide +kernel) (fun d1 hm1 => cd (s_X12_countO (dep := 10) e7 hm0)) (by decide +kernel)
  by_cases e3 : 3 ≤ m
  · exact pr_e hc hm (ch (s_X11_countH (dep := 9) e3 (by omega) hc.1)) (by decide +kernel) (fun d1 hm1 => cd (s_X12_countH (dep := 10) e3 (by omega) hm1.1)) (by decide +kernel)
  rcases (show m = 0 ∨ m = 1 ∨ m = 2 by omega) with rfl | rfl | rfl
  · exact pr_e hc hm (ch (s_X11_count0 (dep := 9) hc.1)) (by decide +kernel) (fun d1 hm1 => cd (s_X12_count0 (dep := 10) hm1.1)) (by decide +kernel)
  · exact pr_e hc hm (ch (s_X11_count1 (dep := 9) hc.1)) (by decide +kernel) (fun d1 hm1 => cd (s_X12_count1 (dep := 10) hm1.1)) (by decide +kernel)
  · exact pr_e hc hm (ch (s_X11_count2 (dep := 9) hc.2.1)) (by decide +kernel) (fun d1 hm1 => cd (s_X12_count2 (dep := 10) hm1.2.1)) (by decide +kernel)
end PR
