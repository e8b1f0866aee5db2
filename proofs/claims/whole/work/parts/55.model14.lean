/-! the law's model: the reader, count -/
def sN (f : Nat → Nat) : Nat → Nat
  | 0 => 0
  | n + 1 => sN f n + f n
theorem sN_s (f : Nat → Nat) (n : Nat) : sN f (n + 1) = sN f n + f n := rfl
theorem sN_cg {f g : Nat → Nat} : ∀ n, (∀ i, i < n → f i = g i) → sN f n = sN g n := by
  intro n
  induction n with
  | zero => intro _; rfl
  | succ n ih => intro h; rw [sN_s, sN_s, ih (fun i hi => h i (by omega)), h n (by omega)]
theorem sN_0 {f : Nat → Nat} : ∀ n, (∀ i, i < n → f i = 0) → sN f n = 0 := by
  intro n
  induction n with
  | zero => intro _; rfl
  | succ n ih => intro h; rw [sN_s, ih (fun i hi => h i (by omega)), h n (by omega)]
theorem sN_add (f g : Nat → Nat) (n : Nat) : sN (fun i => f i + g i) n = sN f n + sN g n := by
  induction n with
  | zero => rfl
  | succ n ih => rw [sN_s, sN_s, sN_s, ih]; omega
theorem sN_comm (f : Nat → Nat → Nat) (m n : Nat) : sN (fun i => sN (f i) n) m = sN (fun j => sN (fun i => f i j) m) n := by
  induction m with
  | zero => exact (sN_0 n (fun _ _ => rfl)).symm
  | succ m ih =>
    rw [sN_s, ih, ← sN_add]
    rfl
theorem sN_cut {f : Nat → Nat} {m n : Nat} (h : m ≤ n) (hz : ∀ i, m ≤ i → i < n → f i = 0) : sN f n = sN f m := by
  induction n with
  | zero => rw [show m = 0 by omega]
  | succ n ih =>
    by_cases e : m = n + 1
    · rw [e]
    · rw [sN_s, ih (by omega) (fun i h1 h2 => hz i h1 (by omega)), hz n (by omega) (by omega), Nat.add_zero]
theorem sN_plus (f : Nat → Nat) (m : Nat) : ∀ n, sN f (m + n) = sN f m + sN (fun i => f (m + i)) n := by
  intro n
  induction n with
  | zero => rfl
  | succ n ih => rw [← Nat.add_assoc, sN_s, ih, sN_s]; omega
theorem sN_mul (f : Nat → Nat) (c : Nat) : ∀ m, sN f (c * m) = sN (fun i => sN (fun j => f (c * i + j)) c) m := by
  intro m
  induction m with
  | zero => rfl
  | succ m ih => rw [Nat.mul_succ, sN_plus, ih, sN_s]
theorem sN_one {n : Nat} {f : Nat → Nat} {i : Nat} (hi : i < n) (hz : ∀ j, j < n → j ≠ i → f j = 0) : sN f n = f i := by
  induction n with
  | zero => omega
  | succ n ih =>
    rw [sN_s]
    by_cases e : i = n
    · subst e; rw [sN_0 i (fun j hj => hz j (by omega) (by omega))]; omega
    · rw [ih (by omega) (fun j hj hne => hz j (by omega) hne), hz n (by omega) (fun z => e z.symm)]; omega
theorem sN_le {f : Nat → Nat} {c : Nat} : ∀ n, (∀ i, i < n → f i ≤ c) → sN f n ≤ n * c := by
  intro n
  induction n with
  | zero => intro _; exact Nat.zero_le _
  | succ n ih =>
    intro h
    have h1 := ih (fun i hi => h i (by omega))
    have h2 := h n (by omega)
    rw [sN_s, Nat.succ_mul]; omega
/-- what the rows with one letter more add -/
def cn (fb : Nat → Nat) (mv : Nat → Nat → Nat) (T : Nat → Nat) (b s p b' s' : Nat) : Nat := if b.testBit p = false ∧ b' = bar fb b p ∧ s' = mv s p then T (b * 5 + s) else 0
theorem goF_sum {fb : Nat → Nat} {mv : Nat → Nat → Nat} {T : Nat → Nat} {b s b' s' : Nat} {U : Nat → Nat} (hs : s' < 5) (hU : U (b' * 5 + s') < 1000000007) : ∀ i, (∀ p, p < i → mv s p < 5) → goF fb mv T b s i U (b' * 5 + s') = (U (b' * 5 + s') + sN (fun p => cn fb mv T b s p b' s') i) % 1000000007 := by
  intro i
  induction i with
  | zero => intro _; show U _ = (U _ + 0) % _; rw [Nat.add_zero, Nat.mod_eq_of_lt hU]
  | succ i ih =>
    intro hm
    have ih2 := ih (fun p hp => hm p (by omega))
    have hmi := hm i (by omega)
    rw [goF_s, sN_s]
    cases hb : b.testBit i with
    | true =>
      rw [if_pos rfl, ih2, show cn fb mv T b s i b' s' = 0 from if_neg (fun z => by rw [hb] at z; cases z.1), Nat.add_zero]
    | false =>
      rw [if_neg (by decide)]
      show (if b' * 5 + s' = bar fb b i * 5 + mv s i then _ else _) = _
      by_cases e : b' = bar fb b i ∧ s' = mv s i
      · rw [if_pos (by rw [e.1, e.2]), ih2, show cn fb mv T b s i b' s' = T (b * 5 + s) from if_pos ⟨hb, e.1, e.2⟩, Nat.mod_add_mod, Nat.add_assoc]
      · rw [if_neg (fun z => e (by omega)), ih2, show cn fb mv T b s i b' s' = 0 from if_neg (fun z => e ⟨z.2.1, z.2.2⟩), Nat.add_zero]
theorem goG_sum {k : Nat} {fb : Nat → Nat} {mv : Nat → Nat → Nat} {T : Nat → Nat} {b s b' s' : Nat} {U : Nat → Nat} (hs : s' < 5) (hU : U (b' * 5 + s') < 1000000007) (hm : ∀ p, p < k → mv s p < 5) : goG k fb mv T b s U (b' * 5 + s') = (U (b' * 5 + s') + sN (fun p => cn fb mv T b s p b' s') k) % 1000000007 := by
  unfold goG
  by_cases h0 : T (b * 5 + s) = 0
  · rw [if_pos h0, sN_0 k (fun p _ => by unfold cn; rw [h0]; simp), Nat.add_zero, Nat.mod_eq_of_lt hU]
  · rw [if_neg h0]; exact goF_sum hs hU k hm
theorem stS_sum {k : Nat} {fb : Nat → Nat} {mv : Nat → Nat → Nat} {T : Nat → Nat} {b b' s' : Nat} {U : Nat → Nat} (hs : s' < 5) (hU : U (b' * 5 + s') < 1000000007) : ∀ n, (∀ s, s < n → ∀ p, p < k → mv s p < 5) → stS k fb mv T b n U (b' * 5 + s') = (U (b' * 5 + s') + sN (fun s => sN (fun p => cn fb mv T b s p b' s') k) n) % 1000000007 := by
  intro n
  induction n with
  | zero => intro _; show U _ = (U _ + 0) % _; rw [Nat.add_zero, Nat.mod_eq_of_lt hU]
  | succ n ih =>
    intro hm
    have ih2 := ih (fun s h => hm s (by omega))
    rw [stS_s, goG_sum hs (by rw [ih2]; exact Nat.mod_lt _ (by decide)) (hm n (by omega)), ih2, sN_s, Nat.mod_add_mod, Nat.add_assoc]
theorem stA_sum {k sts : Nat} {fb : Nat → Nat} {mv : Nat → Nat → Nat} {T : Nat → Nat} {b' s' : Nat} (hs : s' < 5) (hm : ∀ s, s < sts → ∀ p, p < k → mv s p < 5) : ∀ n, stA k sts fb mv T n (b' * 5 + s') = sN (fun b => sN (fun s => sN (fun p => cn fb mv T b s p b' s') k) sts) n % 1000000007 := by
  intro n
  induction n with
  | zero => rfl
  | succ n ih =>
    rw [stA_s, stS_sum hs (by rw [ih]; exact Nat.mod_lt _ (by decide)) sts hm, ih, sN_s, Nat.mod_add_mod]
theorem tkT_lt (k sts : Nat) (fb : Nat → Nat) (mv : Nat → Nat → Nat) (hm : ∀ s, s < sts → ∀ p, p < k → mv s p < 5) (n b s : Nat) (hs : s < 5) : tkT k sts fb mv n (b * 5 + s) < 1000000007 := by
  cases n with
  | zero => show (if _ then _ else _) < _; split <;> decide
  | succ n => rw [tkT_s, stA_sum hs hm]; exact Nat.mod_lt _ (by decide)
/-- nothing stands at states and bars that are not there -/
theorem tkT_0 {k sts : Nat} {fb : Nat → Nat} {mv : Nat → Nat → Nat} (hf : fbOk k fb) (h1 : 1 ≤ sts) (h5 : sts ≤ 5) (hm : ∀ s, s < sts → ∀ p, p < 6 → mv s p < sts) (n b s : Nat) (hs : s < 5) (h : sts ≤ s ∨ 2 ^ k ≤ b) : tkT k sts fb mv n (b * 5 + s) = 0 := by
  have hk := hf.2.1
  have h2 := Nat.two_pow_pos k
  cases n with
  | zero => exact if_neg (by omega)
  | succ n =>
    have hz : ∀ b2 s2 p, s2 < sts → p < k → cn fb mv (tkT k sts fb mv n) b2 s2 p b s = 0 := fun b2 s2 p hs2 hp => if_neg (fun z => by
      have h3 := hm s2 hs2 p (by omega)
      have h4 := bar_lt (x := p) hf (by omega) b2
      omega)
    rw [tkT_s, stA_sum hs (fun s hs2 p hp => by have := hm s hs2 p (by omega); omega), sN_0 (2 ^ k) (fun b2 _ => sN_0 sts (fun s2 hs2 => sN_0 k (fun p hp => hz b2 s2 p hs2 hp)))]
def moRd (d : xD) (sts tb : Nat) (mv : Nat → Nat → Nat) : Prop := d.1 240 32 = nI sts ∧ d.1 240 33 = nI tb ∧ 1 ≤ sts ∧ sts ≤ 5 ∧ tb < 32 ∧ (∀ s, s < 5 → ∀ p, p < 6 → d.1 261 (6 * s + p) = nI (mv s p)) ∧ ∀ s, s < sts → ∀ p, p < 6 → mv s p < sts
theorem moRd.k0 {d d' : xD} {sts tb : Nat} {mv : Nat → Nat → Nat} (h : moRd d sts tb mv) (h1 : d'.1 240 32 = d.1 240 32) (h2 : d'.1 240 33 = d.1 240 33) (h3 : d'.1 261 = d.1 261) : moRd d' sts tb mv := ⟨h1.trans h.1, h2.trans h.2.1, h.2.2.1, h.2.2.2.1, h.2.2.2.2.1, fun s hs p hp => by rw [h3]; exact h.2.2.2.2.2.1 s hs p hp, h.2.2.2.2.2.2⟩
theorem moRd.fr {S : List Nat} {d d' : xD} {sts tb : Nat} {mv : Nat → Nat → Nat} (h : moRd d sts tb mv) (hc : chg S d d') (h0 : 240 ∉ S) (h1 : 261 ∉ S) : moRd d' sts tb mv := h.k0 (by rw [(hc 240 h0).1]) (by rw [(hc 240 h0).1]) (hc 261 h1).1
theorem momv_lt {sts : Nat} {mv : Nat → Nat → Nat} (h : ∀ s, s < sts → ∀ p, p < 6 → mv s p < sts) : ∀ (xs : List Nat) (s : Nat), s < sts → (∀ x ∈ xs, x < 6) → xs.foldl mv s < sts
  | [], s, hs, _ => hs
  | x :: xs, s, hs, hx => momv_lt h xs (mv s x) (h s hs x (hx x List.mem_cons_self)) (fun y hy => hx y (List.mem_cons_of_mem _ hy))
def frN (fb : Nat → Nat) (n : Nat) : Nat := sN (fun a => sN (fun b => ((fb a).testBit b).toNat) a) n
theorem pops_fr {k : Nat} {fb : Nat → Nat} (hf : fbOk k fb) : pops fb 6 / 2 = frN fb 6 := by
  have hp : ∀ p, p < 6 → pop (fb p) = cntB (fb p) 6 := fun p hp => pop_cnt (k := 6) (by decide) (hf.lt64 hp)
  have hs : ∀ p q, p < 6 → q < 6 → ((fb p).testBit q).toNat = ((fb q).testBit p).toNat := fun p q h1 h2 => by rw [hf.2.2.2.1 p q h1 h2]
  have hd : ∀ p, p < 6 → ((fb p).testBit p).toNat = 0 := fun p h1 => by rw [hf.2.2.2.2 p h1]; rfl
  rw [pops_s, pops_s, pops_s, pops_s, pops_s, pops_s, show pops fb 0 = 0 from rfl, hp 0 (by decide), hp 1 (by decide), hp 2 (by decide), hp 3 (by decide), hp 4 (by decide), hp 5 (by decide)]
  unfold frN
  simp only [cntB, sN]
  have d0 := hd 0 (by decide)
  have d1 := hd 1 (by decide)
  have d2 := hd 2 (by decide)
  have d3 := hd 3 (by decide)
  have d4 := hd 4 (by decide)
  have d5 := hd 5 (by decide)
  have a1 := hs 0 1 (by decide) (by decide)
  have a2 := hs 0 2 (by decide) (by decide)
  have a3 := hs 0 3 (by decide) (by decide)
  have a4 := hs 0 4 (by decide) (by decide)
  have a5 := hs 0 5 (by decide) (by decide)
  have b2 := hs 1 2 (by decide) (by decide)
  have b3 := hs 1 3 (by decide) (by decide)
  have b4 := hs 1 4 (by decide) (by decide)
  have b5 := hs 1 5 (by decide) (by decide)
  have c3 := hs 2 3 (by decide) (by decide)
  have c4 := hs 2 4 (by decide) (by decide)
  have c5 := hs 2 5 (by decide) (by decide)
  have e4 := hs 3 4 (by decide) (by decide)
  have e5 := hs 3 5 (by decide) (by decide)
  have f5 := hs 4 5 (by decide) (by decide)
  omega
section MOD
variable {l : Launch} {W : xW} {dep : Nat} {d : xD} {bs : List Nat} {σ : St} {x y z w : Int32} {n n2 n3 k sts tb : Nat} {fb : Nat → Nat} {mv : Nat → Nat → Nat}
theorem s_X12_readerO (h : x < nI 1 ∨ nI 5 < x ∨ y < 0) : mSpecI l W mX12_reader (dep + 1) [.ref (xad W 240), .int x, .int y] d (fun r d' => r = -3 ∧ d' = d) := by
  refine m_spec RX12 [some (.ref (xad W 240)), some (.int x), some (.int y), none, none] rfl (by decide +kernel) rfl rfl (fun K hR => ?_)
  by_cases hx : x < nI 1 ∨ nI 5 < x
  · skip
    refine m_iload_n dX12_reader_0 rfl ?_
    refine m_iconstN 1 dX12_reader_1 (by decide) ?_
    refine m_iconstN 5 dX12_reader_2 (by decide) ?_
    refine m_callSIp (s_X12_inN (x := x) (a := nI 1) (b := nI 5) hx) cs_X12_83 dX12_reader_3 ?_
    refine m_if_eq 22 dX12_reader_6 (by decide) (fun c6 => ?_) (fun c6 => by exfalso; exact c6 rfl)
    refine m_bipush (v := -3) dX12_reader_22 (by decide) ?_
    exact m_iret (ty := .int) hR dX12_reader_24 (⟨rfl, rfl⟩)
  · have hy : y < 0 := by
      rcases h with h | h | h
      · exact absurd (Or.inl h) hx
      · exact absurd (Or.inr h) hx
      · exact h
    refine m_iload_n dX12_reader_0 rfl ?_
    refine m_iconstN 1 dX12_reader_1 (by decide) ?_
    refine m_iconstN 5 dX12_reader_2 (by decide) ?_
    refine m_callSIp (s_X12_inY (x := x) (a := nI 1) (b := nI 5) (Int32.not_lt.mp (fun q => hx (Or.inl q))) (Int32.not_lt.mp (fun q => hx (Or.inr q)))) cs_X12_83 dX12_reader_3 ?_
    refine m_if_eq 22 dX12_reader_6 (by decide) (fun c6 => by exfalso; exact absurd c6 (by decide)) (fun c6 => ?_)
    refine m_iload_n dX12_reader_9 rfl ?_
    refine m_iconstN 0 dX12_reader_10 (by decide) ?_
    refine m_iconstN 1 dX12_reader_11 (by decide) ?_
    refine m_iload_n dX12_reader_12 rfl ?_
    refine m_ishl dX12_reader_13 ?_
    refine m_iconstN 1 dX12_reader_14 (by decide) ?_
    refine m_isub dX12_reader_15 ?_
    refine m_callSIp (s_X12_inN (x := y) (a := nI 0) (Or.inl hy)) cs_X12_83 dX12_reader_16 ?_
    refine m_if_ne 25 dX12_reader_19 (by decide) (fun c19 => by exfalso; exact c19 rfl) (fun c19 => ?_)
    refine m_bipush (v := -3) dX12_reader_22 (by decide) ?_
    exact m_iret (ty := .int) hR dX12_reader_24 (⟨rfl, rfl⟩)
theorem s_X12_readerB {a t : Nat} (h1 : 1 ≤ a) (h5 : a ≤ 5) (ht : t < 2 ^ 31) (hge : 2 ^ a ≤ t) : mSpecI l W mX12_reader (dep + 1) [.ref (xad W 240), .int (nI a), .int (nI t)] d (fun r d' => r = -3 ∧ d' = d) := by
  have h2 : 2 ^ a ≤ 2 ^ 5 := Nat.pow_le_pow_right (by decide) h5
  have h20 := Nat.two_pow_pos a
  refine m_spec RX12 [some (.ref (xad W 240)), some (.int (nI a)), some (.int (nI t)), none, none] rfl (by decide +kernel) rfl rfl (fun K hR => ?_)
  refine m_iload_n dX12_reader_0 rfl ?_
  refine m_iconstN 1 dX12_reader_1 (by decide) ?_
  refine m_iconstN 5 dX12_reader_2 (by decide) ?_
  refine m_callSIp (s_X12_inY (x := nI a) (a := nI 1) (b := nI 5) ((nI_leI (by omega) (by omega)).mpr (by omega)) ((nI_leI (by omega) (by omega)).mpr (by omega))) cs_X12_83 dX12_reader_3 ?_
  refine m_if_eq 22 dX12_reader_6 (by decide) (fun c6 => by exfalso; exact absurd c6 (by decide)) (fun c6 => ?_)
  refine m_iload_n dX12_reader_9 rfl ?_
  refine m_iconstN 0 dX12_reader_10 (by decide) ?_
  refine m_iconstN 1 dX12_reader_11 (by decide) ?_
  refine m_iload_n dX12_reader_12 rfl ?_
  refine m_ishl dX12_reader_13 ?_
  refine m_eqi (nI_two a (by omega)) ?_
  refine m_iconstN 1 dX12_reader_14 (by decide) ?_
  first | refine m_isubN dX12_reader_15 (by omega) ?_ | refine m_isub dX12_reader_15 ?_
  refine m_callSIp (s_X12_inN (x := nI t) (a := nI 0) (b := nI (2 ^ a - 1)) (Or.inr ((nI_ltI (by omega) (by omega)).mpr (by omega)))) cs_X12_83 dX12_reader_16 ?_
  refine m_if_ne 25 dX12_reader_19 (by decide) (fun c19 => by exfalso; exact c19 rfl) (fun c19 => ?_)
  refine m_bipush (v := -3) dX12_reader_22 (by decide) ?_
  exact m_iret (ty := .int) hR dX12_reader_24 (⟨rfl, rfl⟩)
theorem s_X12_reader {a t : Nat} (h1 : 1 ≤ a) (h5 : a ≤ 5) (ht : t < 2 ^ a) : mSpecI l W mX12_reader (dep + 1) [.ref (xad W 240), .int (nI a), .int (nI t)] d (fun r d' => r = 1 ∧ moRd d' a t (fun s _ => s) ∧ (d'.1 240 0 = d.1 240 0 ∧ d'.1 240 4 = d.1 240 4) ∧ chg [240, 261] d d') := by
  have h2 : 2 ^ a ≤ 2 ^ 5 := Nat.pow_le_pow_right (by decide) h5
  have h20 := Nat.two_pow_pos a
  refine m_spec RX12 [some (.ref (xad W 240)), some (.int (nI a)), some (.int (nI t)), none, none] rfl (by decide +kernel) rfl rfl (fun K hR => ?_)
  have outer : ∀ i, i ≤ 5 → ∀ d1 o4, (∀ s, s < i → ∀ p, p < 6 → d1.1 261 (6 * s + p) = nI s) → (d1.1 240 32 = nI a ∧ d1.1 240 33 = nI t ∧ d1.1 240 0 = d.1 240 0 ∧ d1.1 240 4 = d.1 240 4) → chg [240, 261] d d1 → mG W K cX12_reader RX12 (dep + 1) d1 37 [some (.ref (xad W 240)), some (.int (nI a)), some (.int (nI t)), some (.int (nI i)), o4] [] := x_up _ (fun i hi ih d1 o4 g1 g2 g3 => by
    by_cases hin : i < 5
    · have inner : ∀ j, j ≤ 6 → ∀ d2, (∀ s, s < i → ∀ p, p < 6 → d2.1 261 (6 * s + p) = nI s) → (∀ p, p < j → d2.1 261 (6 * i + p) = nI i) → (d2.1 240 32 = nI a ∧ d2.1 240 33 = nI t ∧ d2.1 240 0 = d.1 240 0 ∧ d2.1 240 4 = d.1 240 4) → chg [240, 261] d d2 → mG W K cX12_reader RX12 (dep + 1) d2 45 [some (.ref (xad W 240)), some (.int (nI a)), some (.int (nI t)), some (.int (nI i)), some (.int (nI j))] [] := x_up _ (fun j hj ihj d2 k1 k2 k3 k4 => by
        by_cases hjn : j < 6
        · skip
          refine m_iload dX12_reader_45 rfl ?_
          refine m_bipushN 6 dX12_reader_47 (by decide) ?_
          first | refine m_icmp_geN 71 dX12_reader_49 (by decide) (by omega) (by omega) (fun c49 => by exfalso; omega) (fun c49 => ?_) | refine m_icmp_ge 71 dX12_reader_49 (by decide) (fun c49 => by exfalso; omega) (fun c49 => ?_)
          refine m_aload_n dX12_reader_52 rfl ?_
          refine m_get fl_X12_80 (by decide) rfl rfl dX12_reader_53 ?_
          refine m_bipushN 6 dX12_reader_56 (by decide) ?_
          refine m_iload_n dX12_reader_58 rfl ?_
          first | refine m_imulN dX12_reader_59 ?_ | refine m_imul dX12_reader_59 ?_
          refine m_iload dX12_reader_60 rfl ?_
          first | refine m_iaddN dX12_reader_62 ?_ | refine m_iadd dX12_reader_62 ?_
          refine m_iload_n dX12_reader_63 rfl ?_
          refine m_iast (by first | exact ⟨by decide, by decide, fun _ => rfl⟩ | exact isI_arr _ (by omega) | exact isI_mv _ (by omega) | exact isI_ne _ (by omega)) (by omega) dX12_reader_64 ?_
          first | refine m_iincN 1 dX12_reader_65 (by decide) rfl rfl ?_ | refine m_iinc dX12_reader_65 rfl rfl ?_
          refine m_goto 45 dX12_reader_68 (by decide) ?_
          refine ihj hjn _ (fun s hs p hp => se_e2 (k1 s hs p hp) (by omega)) (fun p hp => ?_) ⟨se_e k3.1 (by decide), se_e k3.2.1 (by decide), se_e k3.2.2.1 (by decide), se_e k3.2.2.2 (by decide)⟩ (k4.se (by simp))
          by_cases e : p = j
          · subst e; exact se_s _ _ _ _
          · exact se_e2 (k2 p (by omega)) (by omega)
        · have e6 : j = 6 := by omega
          subst e6
          refine m_iload dX12_reader_45 rfl ?_
          refine m_bipushN 6 dX12_reader_47 (by decide) ?_
          first | refine m_icmp_geN 71 dX12_reader_49 (by decide) (by omega) (by omega) (fun c49 => ?_) (fun c49 => by exfalso; omega) | refine m_icmp_ge 71 dX12_reader_49 (by decide) (fun c49 => ?_) (fun c49 => by exfalso; omega)
          first | refine m_iincN 1 dX12_reader_71 (by decide) rfl rfl ?_ | refine m_iinc dX12_reader_71 rfl rfl ?_
          refine m_goto 37 dX12_reader_74 (by decide) ?_
          refine ih hin d2 _ (fun s hs p hp => ?_) k3 k4
          by_cases e : s = i
          · subst e; exact k2 p hp
          · exact k1 s (by omega) p hp
        )
      refine m_iload_n dX12_reader_37 rfl ?_
      refine m_iconstN 5 dX12_reader_38 (by decide) ?_
      first | refine m_icmp_geN 77 dX12_reader_39 (by decide) (by omega) (by omega) (fun c39 => by exfalso; omega) (fun c39 => ?_) | refine m_icmp_ge 77 dX12_reader_39 (by decide) (fun c39 => by exfalso; omega) (fun c39 => ?_)
      refine m_iconstN 0 dX12_reader_42 (by decide) ?_
      refine m_istore dX12_reader_43 (Nat.le_of_ble_eq_true rfl) rfl ?_
      exact inner 0 (Nat.zero_le _) d1 g1 (fun p hp => absurd hp (Nat.not_lt_zero p)) g2 g3
    · have e6 : i = 5 := by omega
      subst e6
      refine m_iload_n dX12_reader_37 rfl ?_
      refine m_iconstN 5 dX12_reader_38 (by decide) ?_
      first | refine m_icmp_geN 77 dX12_reader_39 (by decide) (by omega) (by omega) (fun c39 => ?_) (fun c39 => by exfalso; omega) | refine m_icmp_ge 77 dX12_reader_39 (by decide) (fun c39 => ?_) (fun c39 => by exfalso; omega)
      refine m_iconstN 1 dX12_reader_77 (by decide) ?_
      exact m_iret (ty := .int) hR dX12_reader_78 (⟨rfl, ⟨g2.1, g2.2.1, h1, h5, by omega, g1, fun s hs p hp => hs⟩, g2.2.2, g3⟩)
    )
  refine m_iload_n dX12_reader_0 rfl ?_
  refine m_iconstN 1 dX12_reader_1 (by decide) ?_
  refine m_iconstN 5 dX12_reader_2 (by decide) ?_
  refine m_callSIp (s_X12_inY (x := nI a) (a := nI 1) (b := nI 5) ((nI_leI (by omega) (by omega)).mpr (by omega)) ((nI_leI (by omega) (by omega)).mpr (by omega))) cs_X12_83 dX12_reader_3 ?_
  refine m_if_eq 22 dX12_reader_6 (by decide) (fun c6 => by exfalso; exact absurd c6 (by decide)) (fun c6 => ?_)
  refine m_iload_n dX12_reader_9 rfl ?_
  refine m_iconstN 0 dX12_reader_10 (by decide) ?_
  refine m_iconstN 1 dX12_reader_11 (by decide) ?_
  refine m_iload_n dX12_reader_12 rfl ?_
  refine m_ishl dX12_reader_13 ?_
  refine m_eqi (nI_two a (by omega)) ?_
  refine m_iconstN 1 dX12_reader_14 (by decide) ?_
  first | refine m_isubN dX12_reader_15 (by omega) ?_ | refine m_isub dX12_reader_15 ?_
  refine m_callSIp (s_X12_inY (x := nI t) (a := nI 0) (b := nI (2 ^ a - 1)) ((nI_leI (by omega) (by omega)).mpr (by omega)) ((nI_leI (by omega) (by omega)).mpr (by omega))) cs_X12_83 dX12_reader_16 ?_
  refine m_if_ne 25 dX12_reader_19 (by decide) (fun c19 => ?_) (fun c19 => by exfalso; exact c19 (by decide))
  refine m_aload_n dX12_reader_25 rfl ?_
  refine m_iload_n dX12_reader_26 rfl ?_
  refine m_put fl_X12_77 (by decide) rfl (Nat.le_of_ble_eq_true rfl) rfl dX12_reader_27 ?_
  refine m_aload_n dX12_reader_30 rfl ?_
  refine m_iload_n dX12_reader_31 rfl ?_
  refine m_put fl_X12_260 (by decide) rfl (Nat.le_of_ble_eq_true rfl) rfl dX12_reader_32 ?_
  refine m_iconstN 0 dX12_reader_35 (by decide) ?_
  refine m_istore_n dX12_reader_36 (Nat.le_of_ble_eq_true rfl) rfl ?_
  exact outer 0 (Nat.zero_le _) _ _ (fun s hs => absurd hs (Nat.not_lt_zero s)) ⟨se_e2 (se_s _ _ _ _) (by decide), se_s _ _ _ _, se_e2 (se_e2 rfl (by decide)) (by decide), se_e2 (se_e2 rfl (by decide)) (by decide)⟩ ((chg.rf.se (by simp)).se (by simp))
theorem in_out {sts : Nat} {y : Int32} (h1 : 1 ≤ sts) (h5 : sts ≤ 6) (h : y < 0 ∨ nI sts ≤ y) : y < nI 0 ∨ nI (sts - 1) < y := by
  rcases h with h | h
  · exact Or.inl h
  · refine Or.inr ?_
    have h4 := Int32.le_iff_toInt_le.mp h
    rw [Int32.lt_iff_toInt_lt]
    rw [nI_toInt (by omega)] at h4 ⊢
    omega
theorem s_X12_moveA (h : x < 0 ∨ nI sts ≤ x) (hr : moRd d sts tb mv) : mSpecI l W mX12_move (dep + 1) [.ref (xad W 240), .int x, .int y, .int z] d (fun r d' => r = -2 ∧ d' = d) := by
  have h1 := hr.2.2.1
  have h5 := hr.2.2.2.1
  refine m_spec RX12 [some (.ref (xad W 240)), some (.int x), some (.int y), some (.int z), none] rfl (by decide +kernel) rfl rfl (fun K hR => ?_)
  refine m_iload_n dX12_move_0 rfl ?_
  refine m_iconstN 0 dX12_move_1 (by decide) ?_
  refine m_aload_n dX12_move_2 rfl ?_
  refine m_get fl_X12_77 (by decide) rfl rfl dX12_move_3 ?_
  refine m_eqi (hr.1) ?_
  refine m_iconstN 1 dX12_move_6 (by decide) ?_
  first | refine m_isubN dX12_move_7 (by omega) ?_ | refine m_isub dX12_move_7 ?_
  refine m_callSIp (s_X12_inN (in_out h1 (by omega) h)) cs_X12_83 dX12_move_8 ?_
  refine m_if_eq 28 dX12_move_11 (by decide) (fun c11 => ?_) (fun c11 => by exfalso; exact c11 rfl)
  refine m_bipush (v := -2) dX12_move_28 (by decide) ?_
  exact m_iret (ty := .int) hR dX12_move_30 (⟨rfl, rfl⟩)
theorem s_X12_moveB {a : Nat} (ha : a < sts) (h : z < 0 ∨ nI sts ≤ z) (hr : moRd d sts tb mv) : mSpecI l W mX12_move (dep + 1) [.ref (xad W 240), .int (nI a), .int y, .int z] d (fun r d' => r = -2 ∧ d' = d) := by
  have h1 := hr.2.2.1
  have h5 := hr.2.2.2.1
  refine m_spec RX12 [some (.ref (xad W 240)), some (.int (nI a)), some (.int y), some (.int z), none] rfl (by decide +kernel) rfl rfl (fun K hR => ?_)
  refine m_iload_n dX12_move_0 rfl ?_
  refine m_iconstN 0 dX12_move_1 (by decide) ?_
  refine m_aload_n dX12_move_2 rfl ?_
  refine m_get fl_X12_77 (by decide) rfl rfl dX12_move_3 ?_
  refine m_eqi (hr.1) ?_
  refine m_iconstN 1 dX12_move_6 (by decide) ?_
  first | refine m_isubN dX12_move_7 (by omega) ?_ | refine m_isub dX12_move_7 ?_
  refine m_callSIp (s_X12_inY (x := nI a) (a := nI 0) (b := nI (sts - 1)) ((nI_leI (by omega) (by omega)).mpr (by omega)) ((nI_leI (by omega) (by omega)).mpr (by omega))) cs_X12_83 dX12_move_8 ?_
  refine m_if_eq 28 dX12_move_11 (by decide) (fun c11 => by exfalso; exact absurd c11 (by decide)) (fun c11 => ?_)
  refine m_iload_n dX12_move_14 rfl ?_
  refine m_iconstN 0 dX12_move_15 (by decide) ?_
  refine m_aload_n dX12_move_16 rfl ?_
  refine m_get fl_X12_77 (by decide) rfl rfl dX12_move_17 ?_
  refine m_eqi (hr.1) ?_
  refine m_iconstN 1 dX12_move_20 (by decide) ?_
  first | refine m_isubN dX12_move_21 (by omega) ?_ | refine m_isub dX12_move_21 ?_
  refine m_callSIp (s_X12_inN (in_out h1 (by omega) h)) cs_X12_83 dX12_move_22 ?_
  refine m_if_ne 31 dX12_move_25 (by decide) (fun c25 => by exfalso; exact c25 rfl) (fun c25 => ?_)
  refine m_bipush (v := -2) dX12_move_28 (by decide) ?_
  exact m_iret (ty := .int) hR dX12_move_30 (⟨rfl, rfl⟩)
theorem s_X12_moveC {a b : Nat} (ha : a < sts) (hb : b < sts) (h : y < 0 ∨ nI 6 ≤ y) (hr : moRd d sts tb mv) : mSpecI l W mX12_move (dep + 1) [.ref (xad W 240), .int (nI a), .int y, .int (nI b)] d (fun r d' => r = -3 ∧ d' = d) := by
  have h1 := hr.2.2.1
  have h5 := hr.2.2.2.1
  refine m_spec RX12 [some (.ref (xad W 240)), some (.int (nI a)), some (.int y), some (.int (nI b)), none] rfl (by decide +kernel) rfl rfl (fun K hR => ?_)
  refine m_iload_n dX12_move_0 rfl ?_
  refine m_iconstN 0 dX12_move_1 (by decide) ?_
  refine m_aload_n dX12_move_2 rfl ?_
  refine m_get fl_X12_77 (by decide) rfl rfl dX12_move_3 ?_
  refine m_eqi (hr.1) ?_
  refine m_iconstN 1 dX12_move_6 (by decide) ?_
  first | refine m_isubN dX12_move_7 (by omega) ?_ | refine m_isub dX12_move_7 ?_
  refine m_callSIp (s_X12_inY (x := nI a) (a := nI 0) (b := nI (sts - 1)) ((nI_leI (by omega) (by omega)).mpr (by omega)) ((nI_leI (by omega) (by omega)).mpr (by omega))) cs_X12_83 dX12_move_8 ?_
  refine m_if_eq 28 dX12_move_11 (by decide) (fun c11 => by exfalso; exact absurd c11 (by decide)) (fun c11 => ?_)
  refine m_iload_n dX12_move_14 rfl ?_
  refine m_iconstN 0 dX12_move_15 (by decide) ?_
  refine m_aload_n dX12_move_16 rfl ?_
  refine m_get fl_X12_77 (by decide) rfl rfl dX12_move_17 ?_
  refine m_eqi (hr.1) ?_
  refine m_iconstN 1 dX12_move_20 (by decide) ?_
  first | refine m_isubN dX12_move_21 (by omega) ?_ | refine m_isub dX12_move_21 ?_
  refine m_callSIp (s_X12_inY (x := nI b) (a := nI 0) (b := nI (sts - 1)) ((nI_leI (by omega) (by omega)).mpr (by omega)) ((nI_leI (by omega) (by omega)).mpr (by omega))) cs_X12_83 dX12_move_22 ?_
  refine m_if_ne 31 dX12_move_25 (by decide) (fun c25 => ?_) (fun c25 => by exfalso; exact c25 (by decide))
  refine m_iload_n dX12_move_31 rfl ?_
  refine m_iconstN 0 dX12_move_32 (by decide) ?_
  refine m_iconstN 5 dX12_move_33 (by decide) ?_
  refine m_callSIp (s_X12_inN (in_out (sts := 6) (by decide) (by decide) h)) cs_X12_83 dX12_move_34 ?_
  refine m_if_ne 43 dX12_move_37 (by decide) (fun c37 => by exfalso; exact c37 rfl) (fun c37 => ?_)
  refine m_bipush (v := -3) dX12_move_40 (by decide) ?_
  exact m_iret (ty := .int) hR dX12_move_42 (⟨rfl, rfl⟩)
theorem s_X12_move {a b p : Nat} (ha : a < sts) (hb : b < sts) (hp : p < 6) (hr : moRd d sts tb mv) : mSpecI l W mX12_move (dep + 1) [.ref (xad W 240), .int (nI a), .int (nI p), .int (nI b)] d (fun r d' => r = nI (mv a p) ∧ moRd d' sts tb (fun s' p' => if s' = a ∧ p' = p then b else mv s' p') ∧ chg [261] d d') := by
  have h1 := hr.2.2.1
  have h5 := hr.2.2.2.1
  refine m_spec RX12 [some (.ref (xad W 240)), some (.int (nI a)), some (.int (nI p)), some (.int (nI b)), none] rfl (by decide +kernel) rfl rfl (fun K hR => ?_)
  refine m_iload_n dX12_move_0 rfl ?_
  refine m_iconstN 0 dX12_move_1 (by decide) ?_
  refine m_aload_n dX12_move_2 rfl ?_
  refine m_get fl_X12_77 (by decide) rfl rfl dX12_move_3 ?_
  refine m_eqi (hr.1) ?_
  refine m_iconstN 1 dX12_move_6 (by decide) ?_
  first | refine m_isubN dX12_move_7 (by omega) ?_ | refine m_isub dX12_move_7 ?_
  refine m_callSIp (s_X12_inY (x := nI a) (a := nI 0) (b := nI (sts - 1)) ((nI_leI (by omega) (by omega)).mpr (by omega)) ((nI_leI (by omega) (by omega)).mpr (by omega))) cs_X12_83 dX12_move_8 ?_
  refine m_if_eq 28 dX12_move_11 (by decide) (fun c11 => by exfalso; exact absurd c11 (by decide)) (fun c11 => ?_)
  refine m_iload_n dX12_move_14 rfl ?_
  refine m_iconstN 0 dX12_move_15 (by decide) ?_
  refine m_aload_n dX12_move_16 rfl ?_
  refine m_get fl_X12_77 (by decide) rfl rfl dX12_move_17 ?_
  refine m_eqi (hr.1) ?_
  refine m_iconstN 1 dX12_move_20 (by decide) ?_
  first | refine m_isubN dX12_move_21 (by omega) ?_ | refine m_isub dX12_move_21 ?_
  refine m_callSIp (s_X12_inY (x := nI b) (a := nI 0) (b := nI (sts - 1)) ((nI_leI (by omega) (by omega)).mpr (by omega)) ((nI_leI (by omega) (by omega)).mpr (by omega))) cs_X12_83 dX12_move_22 ?_
  refine m_if_ne 31 dX12_move_25 (by decide) (fun c25 => ?_) (fun c25 => by exfalso; exact c25 (by decide))
  refine m_iload_n dX12_move_31 rfl ?_
  refine m_iconstN 0 dX12_move_32 (by decide) ?_
  refine m_iconstN 5 dX12_move_33 (by decide) ?_
  refine m_callSIp (s_X12_inY (x := nI p) (a := nI 0) (b := nI 5) ((nI_leI (by omega) (by omega)).mpr (by omega)) ((nI_leI (by omega) (by omega)).mpr (by omega))) cs_X12_83 dX12_move_34 ?_
  refine m_if_ne 43 dX12_move_37 (by decide) (fun c37 => ?_) (fun c37 => by exfalso; exact c37 (by decide))
  refine m_aload_n dX12_move_43 rfl ?_
  refine m_get fl_X12_80 (by decide) rfl rfl dX12_move_44 ?_
  refine m_bipushN 6 dX12_move_47 (by decide) ?_
  refine m_iload_n dX12_move_49 rfl ?_
  first | refine m_imulN dX12_move_50 ?_ | refine m_imul dX12_move_50 ?_
  refine m_iload_n dX12_move_51 rfl ?_
  first | refine m_iaddN dX12_move_52 ?_ | refine m_iadd dX12_move_52 ?_
  refine m_iald (by first | exact ⟨by decide, by decide, fun _ => rfl⟩ | exact isI_arr _ (by omega) | exact isI_mv _ (by omega) | exact isI_ne _ (by omega)) (by omega) dX12_move_53 ?_
  refine m_eqi (hr.2.2.2.2.2.1 a (by omega) p hp) ?_
  refine m_istore dX12_move_54 (Nat.le_of_ble_eq_true rfl) rfl ?_
  refine m_aload_n dX12_move_56 rfl ?_
  refine m_get fl_X12_80 (by decide) rfl rfl dX12_move_57 ?_
  refine m_bipushN 6 dX12_move_60 (by decide) ?_
  refine m_iload_n dX12_move_62 rfl ?_
  first | refine m_imulN dX12_move_63 ?_ | refine m_imul dX12_move_63 ?_
  refine m_iload_n dX12_move_64 rfl ?_
  first | refine m_iaddN dX12_move_65 ?_ | refine m_iadd dX12_move_65 ?_
  refine m_iload_n dX12_move_66 rfl ?_
  refine m_iast (by first | exact ⟨by decide, by decide, fun _ => rfl⟩ | exact isI_arr _ (by omega) | exact isI_mv _ (by omega) | exact isI_ne _ (by omega)) (by omega) dX12_move_67 ?_
  refine m_iload dX12_move_68 rfl ?_
  have hput : moRd (seI d 261 (6 * a + p) (nI b)) sts tb (fun s' p' => if s' = a ∧ p' = p then b else mv s' p') := by
    refine ⟨hr.1, hr.2.1, h1, h5, hr.2.2.2.2.1, fun s hs q hq => ?_, fun s hs q hq => ?_⟩
    · show (seI d 261 (6 * a + p) (nI b)).1 261 (6 * s + q) = nI (if s = a ∧ q = p then b else mv s q)
      by_cases e : s = a ∧ q = p
      · rw [if_pos e, e.1, e.2]; exact se_s _ _ _ _
      · rw [if_neg e]; exact se_e2 (hr.2.2.2.2.2.1 s hs q hq) (by omega)
    · show (if s = a ∧ q = p then b else mv s q) < sts
      split
      · exact hb
      · exact hr.2.2.2.2.2.2 s hs q hq
  exact m_iret (ty := .int) hR dX12_move_70 (⟨rfl, hput, chg.rf.se (by simp)⟩)
theorem s_X12_minds (hs : moSt d σ) (h : moRd d sts tb mv) : mSpecI l W mX12_minds (dep + 1) [.ref (xad W 240)] d (fun r d' => ((∃ N, r = nI N ∧ mdN σ.1 sts σ.2.1 mv N ∧ ∀ M, M < N → ¬ mdN σ.1 sts σ.2.1 mv M) ∨ (r = -1 ∧ ∀ M, ¬ mdN σ.1 sts σ.2.1 mv M)) ∧ d' = d) := by
  have h5 := h.2.2.2.1
  have hl := hs.1
  have hk := hl.2.2.2.1
  have hI : isI W 261 30 := ⟨by decide, by decide, fun _ => rfl⟩
  have hm := h.2.2.2.2.2.2
  generalize σ.1 = k at *
  generalize σ.2.1 = fb at *
  refine m_spec RX12 [some (.ref (xad W 240)), none, none, none] rfl (by decide +kernel) rfl rfl (fun K hR => ?_)
  have inner : ∀ s p, s < sts → p < k → (∀ o3, (∀ M, M < 64 * s + 8 * (p + 1) → ¬ mdN k sts fb mv M) → mG W K cX12_minds RX12 (dep + 1) d 12 [some (.ref (xad W 240)), some (.int (nI s)), some (.int (nI (p + 1))), o3] []) → ∀ q, q ≤ k → p < q → (∀ M, M < 64 * s + 8 * p + q → ¬ mdN k sts fb mv M) → mG W K cX12_minds RX12 (dep + 1) d 24 [some (.ref (xad W 240)), some (.int (nI s)), some (.int (nI p)), some (.int (nI q))] [] := fun s p hs hp done => x_up _ (fun q hq ih hpq g => by
    have hne : ¬ (q < k ∧ md fb mv s p q) → ∀ M, M < 64 * s + 8 * p + (q + 1) → ¬ mdN k sts fb mv M := fun hc M hM hz => by
      by_cases e : M < 64 * s + 8 * p + q
      · exact g M e hz
      · obtain ⟨s', p', q', a1, a2, a3, a4, a5⟩ := hz
        have b1 : s' = s := by omega
        have b2 : p' = p := by omega
        have b3 : q' = q := by omega
        subst b1; subst b2; subst b3
        exact hc ⟨a3, a4⟩
    by_cases hqk : q < k
    · have e1 := hm s hs p (by omega)
      have e2 := hm s hs q (by omega)
      have e3 := hm _ e1 q (by omega)
      have e4 := hm _ e2 p (by omega)
      refine m_iload_n dX12_minds_24 rfl ?_
      refine m_aload_n dX12_minds_25 rfl ?_
      refine m_get fl_X12_7 (by decide) rfl rfl dX12_minds_26 ?_
      refine m_eqi (hl.1) ?_
      first | refine m_icmp_geN 104 dX12_minds_29 (by decide) (by omega) (by omega) (fun c29 => by exfalso; omega) (fun c29 => ?_) | refine m_icmp_ge 104 dX12_minds_29 (by decide) (fun c29 => by exfalso; omega) (fun c29 => ?_)
      refine m_aload_n dX12_minds_32 rfl ?_
      refine m_iload_n dX12_minds_33 rfl ?_
      refine m_iload_n dX12_minds_34 rfl ?_
      refine m_callVIp (s_X12_areFree hl (p := p) (q := q) (by omega) (by omega)) cv_X12_168 dX12_minds_35 ?_
      refine m_if_eq 98 dX12_minds_38 (by decide) (fun c38 => ?_) (fun c38 => ?_)
      · first | refine m_iincN 1 dX12_minds_98 (by decide) rfl rfl ?_ | refine m_iinc dX12_minds_98 rfl rfl ?_
        refine m_goto 24 dX12_minds_101 (by decide) ?_
        exact ih (by omega) (by omega) (hne (fun z => by rw [if_pos z.2.1] at c38; exact absurd c38 (by decide)))
      · refine m_aload_n dX12_minds_41 rfl ?_
        refine m_get fl_X12_80 (by decide) rfl rfl dX12_minds_42 ?_
        refine m_bipushN 6 dX12_minds_45 (by decide) ?_
        refine m_aload_n dX12_minds_47 rfl ?_
        refine m_get fl_X12_80 (by decide) rfl rfl dX12_minds_48 ?_
        refine m_bipushN 6 dX12_minds_51 (by decide) ?_
        refine m_iload_n dX12_minds_53 rfl ?_
        first | refine m_imulN dX12_minds_54 ?_ | refine m_imul dX12_minds_54 ?_
        refine m_iload_n dX12_minds_55 rfl ?_
        first | refine m_iaddN dX12_minds_56 ?_ | refine m_iadd dX12_minds_56 ?_
        refine m_iald (by first | exact ⟨by decide, by decide, fun _ => rfl⟩ | exact isI_arr _ (by omega) | exact isI_mv _ (by omega) | exact isI_ne _ (by omega)) (by omega) dX12_minds_57 ?_
        refine m_eqi (h.2.2.2.2.2.1 s (by omega) p (by omega)) ?_
        first | refine m_imulN dX12_minds_58 ?_ | refine m_imul dX12_minds_58 ?_
        refine m_iload_n dX12_minds_59 rfl ?_
        first | refine m_iaddN dX12_minds_60 ?_ | refine m_iadd dX12_minds_60 ?_
        refine m_iald (by first | exact ⟨by decide, by decide, fun _ => rfl⟩ | exact isI_arr _ (by omega) | exact isI_mv _ (by omega) | exact isI_ne _ (by omega)) (by omega) dX12_minds_61 ?_
        refine m_eqi (h.2.2.2.2.2.1 _ (by omega) q (by omega)) ?_
        refine m_aload_n dX12_minds_62 rfl ?_
        refine m_get fl_X12_80 (by decide) rfl rfl dX12_minds_63 ?_
        refine m_bipushN 6 dX12_minds_66 (by decide) ?_
        refine m_aload_n dX12_minds_68 rfl ?_
        refine m_get fl_X12_80 (by decide) rfl rfl dX12_minds_69 ?_
        refine m_bipushN 6 dX12_minds_72 (by decide) ?_
        refine m_iload_n dX12_minds_74 rfl ?_
        first | refine m_imulN dX12_minds_75 ?_ | refine m_imul dX12_minds_75 ?_
        refine m_iload_n dX12_minds_76 rfl ?_
        first | refine m_iaddN dX12_minds_77 ?_ | refine m_iadd dX12_minds_77 ?_
        refine m_iald (by first | exact ⟨by decide, by decide, fun _ => rfl⟩ | exact isI_arr _ (by omega) | exact isI_mv _ (by omega) | exact isI_ne _ (by omega)) (by omega) dX12_minds_78 ?_
        refine m_eqi (h.2.2.2.2.2.1 s (by omega) q (by omega)) ?_
        first | refine m_imulN dX12_minds_79 ?_ | refine m_imul dX12_minds_79 ?_
        refine m_iload_n dX12_minds_80 rfl ?_
        first | refine m_iaddN dX12_minds_81 ?_ | refine m_iadd dX12_minds_81 ?_
        refine m_iald (by first | exact ⟨by decide, by decide, fun _ => rfl⟩ | exact isI_arr _ (by omega) | exact isI_mv _ (by omega) | exact isI_ne _ (by omega)) (by omega) dX12_minds_82 ?_
        refine m_eqi (h.2.2.2.2.2.1 _ (by omega) p (by omega)) ?_
        first | refine m_icmp_eqN 98 dX12_minds_83 (by decide) (by omega) (by omega) (fun c83 => ?_) (fun c83 => ?_) | refine m_icmp_eq 98 dX12_minds_83 (by decide) (fun c83 => ?_) (fun c83 => ?_)
        · first | refine m_iincN 1 dX12_minds_98 (by decide) rfl rfl ?_ | refine m_iinc dX12_minds_98 rfl rfl ?_
          refine m_goto 24 dX12_minds_101 (by decide) ?_
          exact ih (by omega) (by omega) (hne (fun z => z.2.2 c83))
        · refine m_bipushN 64 dX12_minds_86 (by decide) ?_
          refine m_iload_n dX12_minds_88 rfl ?_
          first | refine m_imulN dX12_minds_89 ?_ | refine m_imul dX12_minds_89 ?_
          refine m_bipushN 8 dX12_minds_90 (by decide) ?_
          refine m_iload_n dX12_minds_92 rfl ?_
          first | refine m_imulN dX12_minds_93 ?_ | refine m_imul dX12_minds_93 ?_
          first | refine m_iaddN dX12_minds_94 ?_ | refine m_iadd dX12_minds_94 ?_
          refine m_iload_n dX12_minds_95 rfl ?_
          first | refine m_iaddN dX12_minds_96 ?_ | refine m_iadd dX12_minds_96 ?_
          exact m_iret (ty := .int) hR dX12_minds_97 (⟨Or.inl ⟨64 * s + 8 * p + q, rfl, ⟨s, p, q, hs, hpq, by omega, ⟨Decidable.byContradiction (fun z => c38 (by rw [if_neg z])), c83⟩, rfl⟩, g⟩, rfl⟩)
    · skip
      refine m_iload_n dX12_minds_24 rfl ?_
      refine m_aload_n dX12_minds_25 rfl ?_
      refine m_get fl_X12_7 (by decide) rfl rfl dX12_minds_26 ?_
      refine m_eqi (hl.1) ?_
      first | refine m_icmp_geN 104 dX12_minds_29 (by decide) (by omega) (by omega) (fun c29 => ?_) (fun c29 => by exfalso; omega) | refine m_icmp_ge 104 dX12_minds_29 (by decide) (fun c29 => ?_) (fun c29 => by exfalso; omega)
      first | refine m_iincN 1 dX12_minds_104 (by decide) rfl rfl ?_ | refine m_iinc dX12_minds_104 rfl rfl ?_
      refine m_goto 12 dX12_minds_107 (by decide) ?_
      refine done _ (fun M hM hz => ?_)
      by_cases e : M < 64 * s + 8 * p + q
      · exact g M e hz
      · obtain ⟨s', p', q', a1, a2, a3, a4, a5⟩ := hz
        omega
    )
  have mid : ∀ s, s < sts → (∀ o2 o3, (∀ M, M < 64 * (s + 1) → ¬ mdN k sts fb mv M) → mG W K cX12_minds RX12 (dep + 1) d 2 [some (.ref (xad W 240)), some (.int (nI (s + 1))), o2, o3] []) → ∀ p, p ≤ k → ∀ o3, (∀ M, M < 64 * s + 8 * p → ¬ mdN k sts fb mv M) → mG W K cX12_minds RX12 (dep + 1) d 12 [some (.ref (xad W 240)), some (.int (nI s)), some (.int (nI p)), o3] [] := fun s hs done => x_up _ (fun p hp ih o3 g => by
    refine m_iload_n dX12_minds_12 rfl ?_
    refine m_aload_n dX12_minds_13 rfl ?_
    refine m_get fl_X12_7 (by decide) rfl rfl dX12_minds_14 ?_
    refine m_eqi (hl.1) ?_
    first | refine m_icmp_geN 110 dX12_minds_17 (by decide) (by omega) (by omega) (fun c17 => ?_) (fun c17 => ?_) | refine m_icmp_ge 110 dX12_minds_17 (by decide) (fun c17 => ?_) (fun c17 => ?_)
    · first | refine m_iincN 1 dX12_minds_110 (by decide) rfl rfl ?_ | refine m_iinc dX12_minds_110 rfl rfl ?_
      refine m_goto 2 dX12_minds_113 (by decide) ?_
      refine done _ _ (fun M hM hz => ?_)
      by_cases e : M < 64 * s + 8 * p
      · exact g M e hz
      · obtain ⟨s', p', q', a1, a2, a3, a4, a5⟩ := hz
        omega
    · refine m_iload_n dX12_minds_20 rfl ?_
      refine m_iconstN 1 dX12_minds_21 (by decide) ?_
      first | refine m_iaddN dX12_minds_22 ?_ | refine m_iadd dX12_minds_22 ?_
      refine m_istore_n dX12_minds_23 (Nat.le_of_ble_eq_true rfl) rfl ?_
      refine inner s p hs (by omega) (ih (by omega)) (p + 1) (by omega) (by omega) (fun M hM hz => ?_)
      by_cases e : M < 64 * s + 8 * p
      · exact g M e hz
      · obtain ⟨s', p', q', a1, a2, a3, a4, a5⟩ := hz
        omega
    )
  have outer : ∀ s, s ≤ sts → ∀ o2 o3, (∀ M, M < 64 * s → ¬ mdN k sts fb mv M) → mG W K cX12_minds RX12 (dep + 1) d 2 [some (.ref (xad W 240)), some (.int (nI s)), o2, o3] [] := x_up _ (fun s hs ih o2 o3 g => by
    refine m_iload_n dX12_minds_2 rfl ?_
    refine m_aload_n dX12_minds_3 rfl ?_
    refine m_get fl_X12_77 (by decide) rfl rfl dX12_minds_4 ?_
    refine m_eqi (h.1) ?_
    first | refine m_icmp_geN 116 dX12_minds_7 (by decide) (by omega) (by omega) (fun c7 => ?_) (fun c7 => ?_) | refine m_icmp_ge 116 dX12_minds_7 (by decide) (fun c7 => ?_) (fun c7 => ?_)
    · refine m_iconst (v := -1) dX12_minds_116 (by decide) ?_
      have e6 : s = sts := by omega
      exact m_iret (ty := .int) hR dX12_minds_117 (⟨Or.inr ⟨rfl, fun M hz => by
        obtain ⟨s', p', q', a1, a2, a3, a4, a5⟩ := hz
        exact g M (by omega) ⟨s', p', q', a1, a2, a3, a4, a5⟩⟩, rfl⟩)
    · refine m_iconstN 0 dX12_minds_10 (by decide) ?_
      refine m_istore_n dX12_minds_11 (Nat.le_of_ble_eq_true rfl) rfl ?_
      exact mid s (by omega) (ih (by omega)) 0 (Nat.zero_le _) _ g
    )
  refine m_iconstN 0 dX12_minds_0 (by decide) ?_
  refine m_istore_n dX12_minds_1 (Nat.le_of_ble_eq_true rfl) rfl ?_
  exact outer 0 (Nat.zero_le _) _ _ (fun M hM => absurd hM (Nat.not_lt_zero M))
theorem s_X12_runO (hx : hN x = none) : mSpecI l W mX12_run (dep + 2) [.ref (xad W 240), .int x, .int y] d (fun r d' => r = -2 ∧ d' = d) := by
  refine m_spec RX12 [some (.ref (xad W 240)), some (.int x), some (.int y), none, none, none] rfl (by decide +kernel) rfl rfl (fun K hR => ?_)
  refine m_iload_n dX12_run_0 rfl ?_
  refine m_callSIp (s_X12_isHeapO hx) cs_X12_172 dX12_run_1 ?_
  refine m_if_ne 10 dX12_run_4 (by decide) (fun c4 => by exfalso; exact c4 rfl) (fun c4 => ?_)
  refine m_bipush (v := -2) dX12_run_7 (by decide) ?_
  exact m_iret (ty := .int) hR dX12_run_9 (⟨rfl, rfl⟩)
theorem s_X12_runW (hx : hN x = some n) (hy : y < 0 ∨ nI 1 < y) : mSpecI l W mX12_run (dep + 2) [.ref (xad W 240), .int x, .int y] d (fun r d' => r = -3 ∧ d' = d) := by
  refine m_spec RX12 [some (.ref (xad W 240)), some (.int x), some (.int y), none, none, none] rfl (by decide +kernel) rfl rfl (fun K hR => ?_)
  refine m_iload_n dX12_run_0 rfl ?_
  refine m_callSIp (s_X12_isHeap hx) cs_X12_172 dX12_run_1 ?_
  refine m_if_ne 10 dX12_run_4 (by decide) (fun c4 => ?_) (fun c4 => by exfalso; exact c4 (by decide))
  refine m_iload_n dX12_run_10 rfl ?_
  refine m_iconstN 0 dX12_run_11 (by decide) ?_
  refine m_iconstN 1 dX12_run_12 (by decide) ?_
  refine m_callSIp (s_X12_inN (x := y) (a := nI 0) (b := nI 1) hy) cs_X12_83 dX12_run_13 ?_
  refine m_if_ne 22 dX12_run_16 (by decide) (fun c16 => by exfalso; exact c16 rfl) (fun c16 => ?_)
  refine m_bipush (v := -3) dX12_run_19 (by decide) ?_
  exact m_iret (ty := .int) hR dX12_run_21 (⟨rfl, rfl⟩)
theorem s_X12_run {m : Nat} (hx : hN x = some n) (hm : m ≤ 1) (hs : moSt d σ) (h : moRd d sts tb mv) : mSpecI l W mX12_run (dep + 4) [.ref (xad W 240), .int x, .int (nI m)] d (fun r d' => r = (if m = 0 then nI ((leastR (bw σ.1 σ.2.1) (σ.2.2 n)).foldl mv 0) else if tb.testBit ((leastR (bw σ.1 σ.2.1) (σ.2.2 n)).foldl mv 0) = true then 1 else 0) ∧ chg [246, 248, 249] d d') := by
  obtain ⟨hn, rfl⟩ := hN_some hx
  obtain ⟨hA, hAl, hAg, hAx⟩ := hs.2 n hn
  have hk := hs.1.2.2.2.1
  have h5 := h.2.2.2.1
  have hI : isI W 246 48 := ⟨by decide, by decide, fun _ => rfl⟩
  have hI8 : isI W 248 48 := ⟨by decide, by decide, fun _ => rfl⟩
  have hI9 : isI W 261 30 := ⟨by decide, by decide, fun _ => rfl⟩
  have hll := leastR_len (bw_ok hs.1.2.2 hAx)
  have hlx : ∀ x ∈ leastR (bw σ.1 σ.2.1) (σ.2.2 n), x < 6 := fun x hx => by have := hAx x (leastR_mem hx); omega
  refine m_spec RX12 [some (.ref (xad W 240)), some (.int (nI n)), some (.int (nI m)), none, none, none] rfl (by decide +kernel) rfl rfl (fun K hR => ?_)
  generalize hxs : leastR (bw σ.1 σ.2.1) (σ.2.2 n) = xs at *
  have hlt := momv_lt h.2.2.2.2.2.2
  have loop : ∀ i, i ≤ xs.length → ∀ d1, arrB d1 248 xs → chg [246, 248, 249] d d1 → mG W K cX12_run RX12 (dep + 4) d1 52 [some (.ref (xad W 240)), some (.int (nI n)), some (.int (nI m)), some (.int (nI xs.length)), some (.int (nI ((xs.take i).foldl mv 0))), some (.int (nI i))] [] := x_up _ (fun i hi ih d1 g1 g2 => by
    have hr1 := h.fr g2 (by simp) (by simp)
    have hs1 := hlt (xs.take i) 0 (by have := h.2.2.1; omega) (fun x hx => hlx x (List.mem_of_mem_take hx))
    by_cases hin : i < xs.length
    · have hxi := hlx _ (List.getElem_mem hin)
      have ih2 := ih hin
      rw [take_s hin, List.foldl_append] at ih2
      have ih3 : ∀ d1, arrB d1 248 xs → chg [246, 248, 249] d d1 → mG W K cX12_run RX12 (dep + 4) d1 52 [some (.ref (xad W 240)), some (.int (nI n)), some (.int (nI m)), some (.int (nI xs.length)), some (.int (nI (mv ((xs.take i).foldl mv 0) xs[i]))), some (.int (nI (i + 1)))] [] := ih2
      refine m_iload dX12_run_52 rfl ?_
      refine m_iload_n dX12_run_54 rfl ?_
      first | refine m_icmp_geN 84 dX12_run_55 (by decide) (by omega) (by omega) (fun c55 => by exfalso; omega) (fun c55 => ?_) | refine m_icmp_ge 84 dX12_run_55 (by decide) (fun c55 => by exfalso; omega) (fun c55 => ?_)
      refine m_aload_n dX12_run_58 rfl ?_
      refine m_get fl_X12_80 (by decide) rfl rfl dX12_run_59 ?_
      refine m_bipushN 6 dX12_run_62 (by decide) ?_
      refine m_iload dX12_run_64 rfl ?_
      first | refine m_imulN dX12_run_66 ?_ | refine m_imul dX12_run_66 ?_
      refine m_aload_n dX12_run_67 rfl ?_
      refine m_get fl_X12_35 (by decide) rfl rfl dX12_run_68 ?_
      refine m_iload dX12_run_71 rfl ?_
      refine m_iald (by first | exact ⟨by decide, by decide, fun _ => rfl⟩ | exact isI_arr _ (by omega) | exact isI_mv _ (by omega) | exact isI_ne _ (by omega)) (by omega) dX12_run_73 ?_
      refine m_eqi ((by rw [g1 i hin, getD_at hin] : _ = nI xs[i])) ?_
      first | refine m_iaddN dX12_run_74 ?_ | refine m_iadd dX12_run_74 ?_
      refine m_iald (by first | exact ⟨by decide, by decide, fun _ => rfl⟩ | exact isI_arr _ (by omega) | exact isI_mv _ (by omega) | exact isI_ne _ (by omega)) (by omega) dX12_run_75 ?_
      refine m_eqi (hr1.2.2.2.2.2.1 _ (by omega) xs[i] hxi) ?_
      refine m_istore dX12_run_76 (Nat.le_of_ble_eq_true rfl) rfl ?_
      first | refine m_iincN 1 dX12_run_78 (by decide) rfl rfl ?_ | refine m_iinc dX12_run_78 rfl rfl ?_
      refine m_goto 52 dX12_run_81 (by decide) ?_
      exact ih3 d1 g1 g2
    · have e6 : i = xs.length := by omega
      subst e6
      rw [List.take_length] at hs1 ⊢
      have h32 := h.2.2.2.2.1
      refine m_iload dX12_run_52 rfl ?_
      refine m_iload_n dX12_run_54 rfl ?_
      first | refine m_icmp_geN 84 dX12_run_55 (by decide) (by omega) (by omega) (fun c55 => ?_) (fun c55 => by exfalso; omega) | refine m_icmp_ge 84 dX12_run_55 (by decide) (fun c55 => ?_) (fun c55 => by exfalso; omega)
      refine m_iload_n dX12_run_84 rfl ?_
      first | refine m_if_neN 93 dX12_run_85 (by decide) (by omega) (fun c85 => ?_) (fun c85 => ?_) | refine m_if_ne 93 dX12_run_85 (by decide) (fun c85 => ?_) (fun c85 => ?_)
      · refine m_aload_n dX12_run_93 rfl ?_
        refine m_get fl_X12_260 (by decide) rfl rfl dX12_run_94 ?_
        refine m_eqi (hr1.2.1) ?_
        refine m_iload dX12_run_97 rfl ?_
        refine m_ishr dX12_run_99 ?_
        refine m_iconstN 1 dX12_run_100 (by decide) ?_
        refine m_iand dX12_run_101 ?_
        refine m_eqi (nI_bit (by omega) (by omega)) ?_
        exact m_iret (ty := .int) hR dX12_run_102 (⟨by rw [if_neg c85]; cases tb.testBit (xs.foldl mv 0) <;> rfl, g2⟩)
      · refine m_iload dX12_run_88 rfl ?_
        refine m_goto 102 dX12_run_90 (by decide) ?_
        exact m_iret (ty := .int) hR dX12_run_102 (⟨(if_pos (by omega)).symm, g2⟩)
    )
  refine m_iload_n dX12_run_0 rfl ?_
  refine m_callSIp (s_X12_isHeap hx) cs_X12_172 dX12_run_1 ?_
  refine m_if_ne 10 dX12_run_4 (by decide) (fun c4 => ?_) (fun c4 => by exfalso; exact c4 (by decide))
  refine m_iload_n dX12_run_10 rfl ?_
  refine m_iconstN 0 dX12_run_11 (by decide) ?_
  refine m_iconstN 1 dX12_run_12 (by decide) ?_
  refine m_callSIp (s_X12_inY (x := nI m) (a := nI 0) (b := nI 1) ((nI_leI (by omega) (by omega)).mpr (by omega)) ((nI_leI (by omega) (by omega)).mpr (by omega))) cs_X12_83 dX12_run_13 ?_
  refine m_if_ne 22 dX12_run_16 (by decide) (fun c16 => ?_) (fun c16 => by exfalso; exact c16 (by decide))
  refine m_aload_n dX12_run_22 rfl ?_
  refine m_iload_n dX12_run_23 rfl ?_
  refine m_aload_n dX12_run_24 rfl ?_
  refine m_get fl_X12_29 (by decide) rfl rfl dX12_run_25 ?_
  refine m_callVV (s_X12_take (o := 246) hI (by decide) hn hs) cv_X12_186 dX12_run_28 (fun d28 h28 => ?_)
  refine m_aload_n dX12_run_31 rfl ?_
  refine m_aload_n dX12_run_32 rfl ?_
  refine m_get fl_X12_29 (by decide) rfl rfl dX12_run_33 ?_
  refine m_aload_n dX12_run_36 rfl ?_
  refine m_get fl_X12_17 (by decide) rfl rfl dX12_run_37 ?_
  refine m_iload_n dX12_run_40 rfl ?_
  refine m_iald (by first | exact ⟨by decide, by decide, fun _ => rfl⟩ | exact isI_arr _ (by omega) | exact isI_mv _ (by omega) | exact isI_ne _ (by omega)) (by omega) dX12_run_41 ?_
  refine m_eqi ((by rw [(h28.2 242 (by simp)).1]; exact hA : _ = nI (σ.2.2 n).length)) ?_
  refine m_callVI (s_X12_makeLeastOf hI (by decide) (hs.fr h28.2 (by simp) (by simp) (by simp) (by simp)).1 hAx (by omega) h28.1) cv_X12_190 dX12_run_42 (fun r42 d42 h42 => ?_)
  rw [h42.1, ← hll]
  rw [hxs] at h42
  refine m_istore_n dX12_run_45 (Nat.le_of_ble_eq_true rfl) rfl ?_
  refine m_iconstN 0 dX12_run_46 (by decide) ?_
  refine m_istore dX12_run_47 (Nat.le_of_ble_eq_true rfl) rfl ?_
  refine m_iconstN 0 dX12_run_49 (by decide) ?_
  refine m_istore dX12_run_50 (Nat.le_of_ble_eq_true rfl) rfl ?_
  exact loop 0 (Nat.zero_le _) d42 h42.2.1 ((h28.2.mono (by simp)).tr (h42.2.2.mono (by simp)))
theorem s_X12_count0 (hs : moSt d σ) : mSpecI l W mX12_count (dep + 1) [.ref (xad W 240), .int (nI 0)] d (fun r d' => r = nI σ.1 ∧ d' = d) := by
  refine m_spec RX12 [some (.ref (xad W 240)), some (.int (nI 0)), none, none, none] rfl (by decide +kernel) rfl rfl (fun K hR => ?_)
  refine m_iconstN 0 dX12_count_0 (by decide) ?_
  refine m_istore_n dX12_count_1 (Nat.le_of_ble_eq_true rfl) rfl ?_
  refine m_iload_n dX12_count_2 rfl ?_
  refine m_tswIn 28 dX12_count_3 (by decide) (by decide) rfl (by decide) ?_
  refine m_aload_n dX12_count_28 rfl ?_
  refine m_get fl_X12_7 (by decide) rfl rfl dX12_count_29 ?_
  refine m_eqi (hs.1.1) ?_
  exact m_iret (ty := .int) hR dX12_count_32 (⟨rfl, rfl⟩)
theorem s_X12_count1 (hs : moSt d σ) : mSpecI l W mX12_count (dep + 1) [.ref (xad W 240), .int (nI 1)] d (fun r d' => r = nI (pops σ.2.1 6 / 2) ∧ d' = d) := by
  have hl := hs.1
  rw [pops_fr hl.2.2]
  refine m_spec RX12 [some (.ref (xad W 240)), some (.int (nI 1)), none, none, none] rfl (by decide +kernel) rfl rfl (fun K hR => ?_)
  have outer : ∀ i, i ≤ 6 → ∀ o4, mG W K cX12_count RX12 (dep + 1) d 35 [some (.ref (xad W 240)), some (.int (nI 1)), some (.int (nI (frN σ.2.1 i))), some (.int (nI i)), o4] [] := x_up _ (fun i hi ih o4 => by
    by_cases hin : i < 6
    · have ih2 := ih hin
      have inner : ∀ j, j ≤ i → mG W K cX12_count RX12 (dep + 1) d 44 [some (.ref (xad W 240)), some (.int (nI 1)), some (.int (nI (frN σ.2.1 i + sN (fun b => ((σ.2.1 i).testBit b).toNat) j))), some (.int (nI i)), some (.int (nI j))] [] := x_up _ (fun j hj ihj => by
        by_cases hjn : j < i
        · have ihj2 := ihj hjn
          rw [sN_s, ← Nat.add_assoc] at ihj2
          cases hf : (σ.2.1 i).testBit j with
          | true =>
            rw [hf] at ihj2
            refine m_iload dX12_count_44 rfl ?_
            refine m_iload_n dX12_count_46 rfl ?_
            first | refine m_icmp_geN 74 dX12_count_47 (by decide) (by omega) (by omega) (fun c47 => by exfalso; omega) (fun c47 => ?_) | refine m_icmp_ge 74 dX12_count_47 (by decide) (fun c47 => by exfalso; omega) (fun c47 => ?_)
            refine m_iload_n dX12_count_50 rfl ?_
            refine m_aload_n dX12_count_51 rfl ?_
            refine m_iload_n dX12_count_52 rfl ?_
            refine m_iload dX12_count_53 rfl ?_
            refine m_callVIp (s_X12_areFree hl (p := i) (q := j) hin (by omega)) cv_X12_168 dX12_count_55 ?_
            refine m_eqi ((if_pos hf : _ = (1 : Int32))) ?_
            refine m_if_eq 65 dX12_count_58 (by decide) (fun c58 => by exfalso; exact absurd c58 (by decide)) (fun c58 => ?_)
            refine m_iconstN 1 dX12_count_61 (by decide) ?_
            refine m_goto 66 dX12_count_62 (by decide) ?_
            first | refine m_iaddN dX12_count_66 ?_ | refine m_iadd dX12_count_66 ?_
            refine m_istore_n dX12_count_67 (Nat.le_of_ble_eq_true rfl) rfl ?_
            first | refine m_iincN 1 dX12_count_68 (by decide) rfl rfl ?_ | refine m_iinc dX12_count_68 rfl rfl ?_
            refine m_goto 44 dX12_count_71 (by decide) ?_
            exact ihj2
          | false =>
            rw [hf] at ihj2
            refine m_iload dX12_count_44 rfl ?_
            refine m_iload_n dX12_count_46 rfl ?_
            first | refine m_icmp_geN 74 dX12_count_47 (by decide) (by omega) (by omega) (fun c47 => by exfalso; omega) (fun c47 => ?_) | refine m_icmp_ge 74 dX12_count_47 (by decide) (fun c47 => by exfalso; omega) (fun c47 => ?_)
            refine m_iload_n dX12_count_50 rfl ?_
            refine m_aload_n dX12_count_51 rfl ?_
            refine m_iload_n dX12_count_52 rfl ?_
            refine m_iload dX12_count_53 rfl ?_
            refine m_callVIp (s_X12_areFree hl (p := i) (q := j) hin (by omega)) cv_X12_168 dX12_count_55 ?_
            refine m_eqi ((if_neg (by rw [hf]; decide) : _ = (0 : Int32))) ?_
            refine m_if_eq 65 dX12_count_58 (by decide) (fun c58 => ?_) (fun c58 => by exfalso; exact c58 rfl)
            refine m_iconstN 0 dX12_count_65 (by decide) ?_
            first | refine m_iaddN dX12_count_66 ?_ | refine m_iadd dX12_count_66 ?_
            refine m_istore_n dX12_count_67 (Nat.le_of_ble_eq_true rfl) rfl ?_
            first | refine m_iincN 1 dX12_count_68 (by decide) rfl rfl ?_ | refine m_iinc dX12_count_68 rfl rfl ?_
            refine m_goto 44 dX12_count_71 (by decide) ?_
            exact ihj2
        · have e6 : j = i := by omega
          rw [e6]
          refine m_iload dX12_count_44 rfl ?_
          refine m_iload_n dX12_count_46 rfl ?_
          first | refine m_icmp_geN 74 dX12_count_47 (by decide) (by omega) (by omega) (fun c47 => ?_) (fun c47 => by exfalso; omega) | refine m_icmp_ge 74 dX12_count_47 (by decide) (fun c47 => ?_) (fun c47 => by exfalso; omega)
          first | refine m_iincN 1 dX12_count_74 (by decide) rfl rfl ?_ | refine m_iinc dX12_count_74 rfl rfl ?_
          refine m_goto 35 dX12_count_77 (by decide) ?_
          exact ih2 _
        )
      refine m_iload_n dX12_count_35 rfl ?_
      refine m_bipushN 6 dX12_count_36 (by decide) ?_
      first | refine m_icmp_geN 80 dX12_count_38 (by decide) (by omega) (by omega) (fun c38 => by exfalso; omega) (fun c38 => ?_) | refine m_icmp_ge 80 dX12_count_38 (by decide) (fun c38 => by exfalso; omega) (fun c38 => ?_)
      refine m_iconstN 0 dX12_count_41 (by decide) ?_
      refine m_istore dX12_count_42 (Nat.le_of_ble_eq_true rfl) rfl ?_
      exact inner 0 (Nat.zero_le _)
    · have e6 : i = 6 := by omega
      subst e6
      refine m_iload_n dX12_count_35 rfl ?_
      refine m_bipushN 6 dX12_count_36 (by decide) ?_
      first | refine m_icmp_geN 80 dX12_count_38 (by decide) (by omega) (by omega) (fun c38 => ?_) (fun c38 => by exfalso; omega) | refine m_icmp_ge 80 dX12_count_38 (by decide) (fun c38 => ?_) (fun c38 => by exfalso; omega)
      refine m_iload_n dX12_count_80 rfl ?_
      exact m_iret (ty := .int) hR dX12_count_81 (⟨rfl, rfl⟩)
    )
  refine m_iconstN 0 dX12_count_0 (by decide) ?_
  refine m_istore_n dX12_count_1 (Nat.le_of_ble_eq_true rfl) rfl ?_
  refine m_iload_n dX12_count_2 rfl ?_
  refine m_tswIn 33 dX12_count_3 (by decide) (by decide) rfl (by decide) ?_
  refine m_iconstN 0 dX12_count_33 (by decide) ?_
  refine m_istore_n dX12_count_34 (Nat.le_of_ble_eq_true rfl) rfl ?_
  exact outer 0 (by decide) _
theorem s_X12_count2 (h : moTx d bs) : mSpecI l W mX12_count (dep + 1) [.ref (xad W 240), .int (nI 2)] d (fun r d' => r = nI bs.length ∧ d' = d) := by
  refine m_spec RX12 [some (.ref (xad W 240)), some (.int (nI 2)), none, none, none] rfl (by decide +kernel) rfl rfl (fun K hR => ?_)
  refine m_iconstN 0 dX12_count_0 (by decide) ?_
  refine m_istore_n dX12_count_1 (Nat.le_of_ble_eq_true rfl) rfl ?_
  refine m_iload_n dX12_count_2 rfl ?_
  refine m_tswIn 82 dX12_count_3 (by decide) (by decide) rfl (by decide) ?_
  refine m_aload_n dX12_count_82 rfl ?_
  refine m_get fl_X12_87 (by decide) rfl rfl dX12_count_83 ?_
  refine m_eqi (h.1) ?_
  exact m_iret (ty := .int) hR dX12_count_86 (⟨rfl, rfl⟩)
theorem s_X12_countM (h : x < 0) : mSpecI l W mX12_count (dep + 1) [.ref (xad W 240), .int x] d (fun r d' => r = -3 ∧ d' = d) := by
  have h0 : (0 : Int32).toInt = 0 := by decide
  have hneg : x.toInt < 0 := by have := Int32.lt_iff_toInt_lt.mp h; omega
  have h3 : x < nI 3 := Int32.lt_iff_toInt_lt.mpr (by rw [nI_toInt (by decide)]; omega)
  refine m_spec RX12 [some (.ref (xad W 240)), some (.int x), none, none, none] rfl (by decide +kernel) rfl rfl (fun K hR => ?_)
  refine m_iconstN 0 dX12_count_0 (by decide) ?_
  refine m_istore_n dX12_count_1 (Nat.le_of_ble_eq_true rfl) rfl ?_
  refine m_iload_n dX12_count_2 rfl ?_
  refine m_tswOut 87 dX12_count_3 (Or.inl hneg) (by decide) ?_
  refine m_iload_n dX12_count_87 rfl ?_
  refine m_iconstN 3 dX12_count_88 (by decide) ?_
  refine m_bipushN 6 dX12_count_89 (by decide) ?_
  refine m_callSIp (s_X12_inN (x := x) (a := nI 3) (b := nI 6) (Or.inl h3)) cs_X12_83 dX12_count_91 ?_
  refine m_if_eq 108 dX12_count_94 (by decide) (fun c94 => ?_) (fun c94 => by exfalso; exact c94 rfl)
  refine m_bipush (v := -3) dX12_count_108 (by decide) ?_
  exact m_iret (ty := .int) hR dX12_count_110 (⟨rfl, rfl⟩)
theorem s_X12_countH {m : Nat} (hm : 3 ≤ m) (hm2 : m < 7) (hs : moSt d σ) : mSpecI l W mX12_count (dep + 1) [.ref (xad W 240), .int (nI m)] d (fun r d' => r = nI (σ.2.2 (m - 3)).length ∧ d' = d) := by
  refine m_spec RX12 [some (.ref (xad W 240)), some (.int (nI m)), none, none, none] rfl (by decide +kernel) rfl rfl (fun K hR => ?_)
  refine m_iconstN 0 dX12_count_0 (by decide) ?_
  refine m_istore_n dX12_count_1 (Nat.le_of_ble_eq_true rfl) rfl ?_
  refine m_iload_n dX12_count_2 rfl ?_
  refine m_tswOut 87 dX12_count_3 (Or.inr (by rw [nI_toInt (by omega)]; omega)) (by decide) ?_
  refine m_iload_n dX12_count_87 rfl ?_
  refine m_iconstN 3 dX12_count_88 (by decide) ?_
  refine m_bipushN 6 dX12_count_89 (by decide) ?_
  refine m_callSIp (s_X12_inY (x := nI m) (a := nI 3) (b := nI 6) ((nI_leI (by omega) (by omega)).mpr (by omega)) ((nI_leI (by omega) (by omega)).mpr (by omega))) cs_X12_83 dX12_count_91 ?_
  refine m_if_eq 108 dX12_count_94 (by decide) (fun c94 => by exfalso; exact absurd c94 (by decide)) (fun c94 => ?_)
  refine m_aload_n dX12_count_97 rfl ?_
  refine m_get fl_X12_17 (by decide) rfl rfl dX12_count_98 ?_
  refine m_iload_n dX12_count_101 rfl ?_
  refine m_iconstN 3 dX12_count_102 (by decide) ?_
  first | refine m_isubN dX12_count_103 (by omega) ?_ | refine m_isub dX12_count_103 ?_
  refine m_iald (by first | exact ⟨by decide, by decide, fun _ => rfl⟩ | exact isI_arr _ (by omega) | exact isI_mv _ (by omega) | exact isI_ne _ (by omega)) (by omega) dX12_count_104 ?_
  refine m_eqi ((hs.2 (m - 3) (by omega)).1) ?_
  refine m_goto 110 dX12_count_105 (by decide) ?_
  exact m_iret (ty := .int) hR dX12_count_110 (⟨rfl, rfl⟩)
theorem s_X12_countO {m : Nat} (hm : 7 ≤ m) (hm2 : m < 2 ^ 31) : mSpecI l W mX12_count (dep + 1) [.ref (xad W 240), .int (nI m)] d (fun r d' => r = -3 ∧ d' = d) := by
  refine m_spec RX12 [some (.ref (xad W 240)), some (.int (nI m)), none, none, none] rfl (by decide +kernel) rfl rfl (fun K hR => ?_)
  refine m_iconstN 0 dX12_count_0 (by decide) ?_
  refine m_istore_n dX12_count_1 (Nat.le_of_ble_eq_true rfl) rfl ?_
  refine m_iload_n dX12_count_2 rfl ?_
  refine m_tswOut 87 dX12_count_3 (Or.inr (by rw [nI_toInt (by omega)]; omega)) (by decide) ?_
  refine m_iload_n dX12_count_87 rfl ?_
  refine m_iconstN 3 dX12_count_88 (by decide) ?_
  refine m_bipushN 6 dX12_count_89 (by decide) ?_
  refine m_callSIp (s_X12_inN (x := nI m) (a := nI 3) (b := nI 6) (Or.inr ((nI_ltI (by omega) (by omega)).mpr (by omega)))) cs_X12_83 dX12_count_91 ?_
  refine m_if_eq 108 dX12_count_94 (by decide) (fun c94 => ?_) (fun c94 => by exfalso; exact c94 rfl)
  refine m_bipush (v := -3) dX12_count_108 (by decide) ?_
  exact m_iret (ty := .int) hR dX12_count_110 (⟨rfl, rfl⟩)
end MOD
