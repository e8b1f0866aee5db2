/-! the law's model: the walk over beginnings -/
def kf (c : Nat → Nat) (t : Nat) : Nat := khT (dig c t) 0
theorem tbIs.put {d d' : xD} {tbl : Nat → Nat} {ks : List Nat} {key i : Nat} (h : tbIs d tbl ks) (he : endAt tbl ks key i) (hn : key ∉ ks) (hk : key < 244140625) (hl : ks.length < 15625) (h1 : d'.1 251 ks.length = nI key) (h2 : ∀ q, q ≠ ks.length → d'.1 251 q = d.1 251 q) (h3 : d'.1 253 ((hq (key + 1) + i) % 65536) = nI (ks.length + 1)) (h4 : ∀ q, q ≠ (hq (key + 1) + i) % 65536 → d'.1 253 q = d.1 253 q) : tbIs d' (fun a => if a = (hq (key + 1) + i) % 65536 then ks.length + 1 else tbl a) (ks ++ [key]) := by
  have hlast : (ks ++ [key]).getD ks.length 0 = key := by rw [List.getD_eq_getElem?_getD, List.getElem?_append_right (Nat.le_refl _), Nat.sub_self]; rfl
  have hold : ∀ q, q < ks.length → (ks ++ [key]).getD q 0 = ks.getD q 0 := fun q hq => by rw [List.getD_eq_getElem?_getD, List.getD_eq_getElem?_getD, List.getElem?_append_left hq]
  have hT0 : tbT tbl ks ((hq (key + 1) + i) % 65536) = 0 := by
    refine he.2.1.resolve_right (fun z => hn ?_)
    have := (tab_has h.2.2.1 (v := key + 1) (by omega) he.1 he.2.1 he.2.2).mp z
    rw [List.mem_map] at this
    obtain ⟨b, hb, e⟩ := this
    rwa [show b = key by omega] at hb
  refine ⟨fun q hq => ?_, fun a ha => ?_, ?_, by rw [List.length_append, List.length_singleton]; omega⟩
  · rw [List.length_append, List.length_singleton] at hq
    by_cases e : q = ks.length
    · subst e; rw [hlast]; exact ⟨h1, hk⟩
    · rw [hold q (by omega), h2 q e]; exact h.1 q (by omega)
  · rw [List.length_append, List.length_singleton]
    dsimp only
    by_cases e : a = (hq (key + 1) + i) % 65536
    · rw [if_pos e, e]; exact ⟨h3, Nat.le_refl _⟩
    · rw [if_neg e, h4 a e]
      have := h.2.1 a ha
      exact ⟨this.1, by omega⟩
  · rw [List.map_append]
    refine tab_put h.2.2.1 (v := key + 1) (by omega) he.1 (fun z => ?_) hT0 he.2.2 (fun a ha => ?_)
    · rw [List.mem_map] at z
      obtain ⟨b, hb, e⟩ := z
      rw [show b = key by omega] at hb
      exact hn hb
    · by_cases e : a = (hq (key + 1) + i) % 65536
      · rw [if_pos e]
        have e2 : (fun a => if a = (hq (key + 1) + i) % 65536 then ks.length + 1 else tbl a) a = ks.length + 1 := if_pos e
        unfold tbT
        rw [e2, if_neg (by omega), Nat.add_sub_cancel, hlast]
      · rw [if_neg e]
        have e2 : (fun a => if a = (hq (key + 1) + i) % 65536 then ks.length + 1 else tbl a) a = tbl a := if_neg e
        unfold tbT
        rw [e2]
        have := (h.2.1 a ha).2
        by_cases e0 : tbl a = 0
        · rw [if_pos e0, if_pos e0]
        · rw [if_neg e0, if_neg e0, hold _ (by omega)]
theorem tbIs.end {d : xD} {tbl : Nat → Nat} {ks : List Nat} (h : tbIs d tbl ks) (key : Nat) : ∃ i, endAt tbl ks key i := by
  obtain ⟨i, h1, h2, h3⟩ := tab_end h.2.2.1 (by rw [List.length_map]; have := h.2.2.2; omega) (key + 1)
  exact ⟨i, h1, h2, h3⟩
/-- where the table says something, it is where the number stands -/
theorem tbIs.at {d : xD} {tbl : Nat → Nat} {ks : List Nat} {key i : Nat} (h : tbIs d tbl ks) (he : endAt tbl ks key i) : (key ∈ ks ↔ tbl ((hq (key + 1) + i) % 65536) ≠ 0) ∧ (key ∈ ks → ks[tbl ((hq (key + 1) + i) % 65536) - 1]? = some key) := by
  have hpl : (hq (key + 1) + i) % 65536 < 65536 := Nat.mod_lt _ (by decide)
  have hh := tab_has h.2.2.1 (v := key + 1) (by omega) he.1 he.2.1 he.2.2
  have hm : key + 1 ∈ ks.map (· + 1) ↔ key ∈ ks := by
    rw [List.mem_map]
    constructor
    · rintro ⟨b, hb, e⟩; rwa [show b = key by omega] at hb
    · intro hb; exact ⟨key, hb, rfl⟩
  rw [hm] at hh
  have hb := (h.2.1 _ hpl).2
  obtain ⟨e1, e2, e3⟩ := he
  generalize (hq (key + 1) + i) % 65536 = pl at *
  by_cases h0 : tbl pl = 0
  · have hT : tbT tbl ks pl = 0 := if_pos h0
    have hn : key ∉ ks := fun z => by have := hh.mpr z; omega
    exact ⟨⟨fun z => absurd z hn, fun z => absurd h0 z⟩, fun z => absurd z hn⟩
  · have hT : tbT tbl ks pl = ks.getD (tbl pl - 1) 0 + 1 := if_neg h0
    have hin : key ∈ ks := hh.mp (e2.resolve_left (by omega))
    refine ⟨⟨fun _ => h0, fun _ => hin⟩, fun _ => ?_⟩
    have h9 := hh.mpr hin
    rw [hT] at h9
    have hlt : tbl pl - 1 < ks.length := by omega
    rw [List.getElem?_eq_getElem hlt, ← getD_at hlt]
    congr 1
    omega
theorem si_e {d : xD} {o k o' q : Nat} {x : Int32} {v : Int64} (h : d.2 o' q = v) : (seI d o k x).2 o' q = v := h
theorem sl_e {d : xD} {o k o' q : Nat} {x : Int64} {v : Int32} (h : d.1 o' q = v) : (seL d o k x).1 o' q = v := h
section MOD
variable {l : Launch} {W : xW} {dep : Nat} {d : xD} {bs : List Nat} {σ : St} {x y z w : Int32} {n n2 n3 k : Nat} {fb : Nat → Nat}
def moBC : List Nat := [246, 251, 252, 253, 254, 255]
theorem s_X12_findBeginnings (hn : n < 4) (hs : moSt d σ) : mSpecV l W mX12_findBeginnings (dep + 2) [.ref (xad W 240), .int (nI n)] d (fun d' => d'.1 240 24 = nI (cntF (bw σ.1 σ.2.1) (σ.2.2 n) (cntV (σ.2.2 n)) (strd (cntV (σ.2.2 n)) 6)) ∧ 1 ≤ cntF (bw σ.1 σ.2.1) (σ.2.2 n) (cntV (σ.2.2 n)) (strd (cntV (σ.2.2 n)) 6) ∧ d'.2 252 (cntF (bw σ.1 σ.2.1) (σ.2.2 n) (cntV (σ.2.2 n)) (strd (cntV (σ.2.2 n)) 6) - 1) = lN (ways (bw σ.1 σ.2.1) (σ.2.2 n) (dig (cntV (σ.2.2 n)) (strd (cntV (σ.2.2 n)) 6 - 1)) % 1000000007) ∧ d'.1 240 25 = nI (maxF (bw σ.1 σ.2.1) (σ.2.2 n) (cntV (σ.2.2 n)) (strd (cntV (σ.2.2 n)) 6)) ∧ chK moBC d d') := by
  obtain ⟨hA, hAl, hAg, hAx⟩ := hs.2 n hn
  have hk := hs.1.2.2.2.1
  have hx6 : ∀ x ∈ σ.2.2 n, x < 6 := fun x h => by have := hAx x h; omega
  generalize hxs : σ.2.2 n = xs at *
  have hcsum : sum6 (cntV xs) ≤ 24 := by rw [cnt_sum hx6]; exact hAl
  have hst6 := strd_le (c := cntV xs) hcsum (Nat.le_refl 6)
  have hcl : ∀ q, cntV xs q ≤ 24 := fun q => Nat.le_trans List.count_le_length hAl
  generalize hc : cntV xs = c at *
  have hc' := hc.symm
  obtain ⟨B, hB⟩ : ∃ B, B = bw σ.1 σ.2.1 := ⟨_, rfl⟩
  rw [← hB]
  have hdl : ∀ t q, dig c t q ≤ 24 := fun t q => Nat.le_trans (dig_le _ _ _) (hcl q)
  have hkl : ∀ t, kf c t < 244140625 := fun t => khT_lt (fun q _ => hdl t q) 0 (by decide)
  have hkinj : ∀ t u, t < strd c 6 → u < strd c 6 → kf c t = kf c u → t = u := fun t u ht hu e => dig_uniq ht hu (khT_inj (fun q _ => hdl t q) (fun q _ => hdl u q) e)
  have hI : isI W 246 48 := ⟨by decide, by decide, fun _ => rfl⟩
  have hI1 : isI W 251 20001 := ⟨by decide, by decide, fun _ => rfl⟩
  have hI3 : isI W 253 65536 := ⟨by decide, by decide, fun _ => rfl⟩
  have hI4 : isI W 254 6 := ⟨by decide, by decide, fun _ => rfl⟩
  have hI5 : isI W 255 6 := ⟨by decide, by decide, fun _ => rfl⟩
  have hL2 : isL W 252 20001 := ⟨by decide, by decide, fun _ => rfl⟩
  refine m_spec RX12 [some (.ref (xad W 240)), some (.int (nI n)), none, none, none, none, none, none, none] rfl (by decide +kernel) rfl rfl (fun K hR => ?_)
  have hgd : ∀ (ms : List Nat) (i v : Nat), ms[i]? = some v → (ms.map (kf c)).getD i 0 = kf c v := fun ms i v h => by
    rw [List.getD_eq_getElem?_getD, List.getElem?_map, h]; rfl
  have outer : ∀ (N a : Nat) (ms : List Nat) (tbl : Nat → Nat) d1 o3 o4 o5 o6 o7 o8, 20000 - a = N → a ≤ ms.length → bfs B xs c ms a 0 → tbIs d1 tbl (ms.map (kf c)) → d1.1 240 24 = nI ms.length → d1.1 240 25 = nI (mxL B xs c (ms.take a)) → (∀ i v, ms[i]? = some v → d1.2 252 i = lN (wayD B xs c (edgeD ms a 0) v % 1000000007)) → arrB d1 246 xs → chK moBC d d1 → mG W K cX12_findBeginnings RX12 (dep + 2) d1 67 [some (.ref (xad W 240)), some (.int (nI n)), some (.int (nI a)), o3, o4, o5, o6, o7, o8] [] := by
    intro N
    induction N with
    | zero =>
      intro a ms tbl d1 o3 o4 o5 o6 o7 o8 hN ha hb
      have := hb.len
      omega
    | succ N ihN =>
    intro a ms tbl d1 o3 o4 o5 o6 o7 o8 hN ha hb h1 h2 h3 h4 h5 h6
    have hlen := hb.len
    by_cases hal : a < ms.length
    · have hv : ms[a]? = some ms[a] := List.getElem?_eq_getElem hal
      generalize ms[a] = t at hv
      have htm := List.mem_of_getElem? hv
      have ht6 := (hb.2.1 t htm).1
      have htw := (hb.2.1 t htm).2
      have hmxl : mxL B xs c (ms.take a) ≤ 6 := (foldmax_le _ 6 _ 0).mpr ⟨by decide, fun u _ => wide_le _ _ _⟩
      -- the letters, one behind the other
      have inner : ∀ L, L ≤ 6 → ∀ (ms : List Nat) (tbl : Nat → Nat) d2 o6 o7 o8, ms[a]? = some t → bfs B xs c ms a L → tbIs d2 tbl (ms.map (kf c)) → d2.1 240 24 = nI ms.length → d2.1 240 25 = nI (mxL B xs c (ms.take a)) → (∀ i v, ms[i]? = some v → d2.2 252 i = lN (wayD B xs c (edgeD ms a L) v % 1000000007)) → arrB d2 246 xs → (∀ q, q < 6 → d2.1 254 q = nI (dig c t q)) → chK moBC d d2 → mG W K cX12_findBeginnings RX12 (dep + 2) d2 130 [some (.ref (xad W 240)), some (.int (nI n)), some (.int (nI a)), some (.int (nI 0)), some (.int (nI (opens B xs (dig c t) L))), some (.int (nI L)), o6, o7, o8] [] := x_up _ (fun L hL ihL ms tbl d2 o6 o7 o8 hv hb g1 g2 g3 g4 g5 g6 g7 => by
        have hop9 := opens_le B xs (dig c t) L
        have hlen := hb.len
        by_cases hL6 : L < 6
        · have ihL2 := ihL hL6
          have hstep : ∀ v, wayD B xs c (edgeD ms a (L + 1)) v = wayD B xs c (edgeD ms a L) v + (if v = t + strd c L ∧ opn B xs (dig c t) L = true then ways B xs (dig c t) else 0) := fun v => wayD_s hc' hL6 (edge_new hb hv) (edge_s hv)
          have hmay : ∀ d3, moLet d3 σ.1 σ.2.1 → arrB d3 246 xs → (∀ q, q < 6 → d3.1 254 q = nI (dig c t q) ∧ dig c t q ≤ 24) → (∀ q, q < 6 → d3.1 255 q = nI 0) → mSpecI K.1.1 W mX12_mayCome (dep + 1) [.ref (xad W 240), .int (nI xs.length), .int (nI L)] d3 (fun r d' => r = (if opn B xs (dig c t) L = true then 1 else 0) ∧ chg [255] d3 d') := fun d3 a1 a2 a3 a4 => by
            rw [hB]
            exact s_X12_mayCome a1 hAx hAl a2 a3 a4 hL6
          have stage2 : ∀ d3 o6 o7, (∀ q, q < 6 → d3.1 255 q = nI 0) → chg [255] d2 d3 → mG W K cX12_findBeginnings RX12 (dep + 2) d3 161 [some (.ref (xad W 240)), some (.int (nI n)), some (.int (nI a)), some (.int (nI 0)), some (.int (nI (opens B xs (dig c t) L))), some (.int (nI L)), o6, o7, o8] [] := fun d3 o6 o7 k1 k2 => by
            have k7 : chK moBC d d3 := g7.tr (chK.of (k2.mono (by simp [moBC])) (by simp [moBC]))
            have hs3 : moSt d3 σ := hs.ck k7 (by simp [moBC]) (by simp [moBC]) (by simp [moBC])
            have hA3 := (hs3.2 n hn).1
            rw [hxs] at hA3
            have k5 : arrB d3 246 xs := g5.fr k2 (by simp)
            have k6 : ∀ q, q < 6 → d3.1 254 q = nI (dig c t q) ∧ dig c t q ≤ 24 := fun q hq => ⟨by rw [(k2 254 (by simp)).1]; exact g6 q hq, hdl t q⟩
            -- behind mayCome
            have after : ∀ d4, chg [255] d2 d4 → tbIs d4 tbl (ms.map (kf c)) ∧ d4.1 240 24 = nI ms.length ∧ d4.1 240 25 = nI (mxL B xs c (ms.take a)) ∧ (∀ i v, ms[i]? = some v → d4.2 252 i = lN (wayD B xs c (edgeD ms a L) v % 1000000007)) ∧ arrB d4 246 xs ∧ (∀ q, q < 6 → d4.1 254 q = nI (dig c t q)) ∧ chK moBC d d4 := fun d4 h => ⟨g1.fr h (by simp) (by simp), by rw [(h 240 (by simp)).1]; exact g2, by rw [(h 240 (by simp)).1]; exact g3, fun i v hi => by rw [(h 252 (by simp)).2]; exact g4 i v hi, g5.fr h (by simp), fun q hq => by rw [(h 254 (by simp)).1]; exact g6 q hq, g7.tr (chK.of (h.mono (by simp [moBC])) (by simp [moBC]))⟩
            have hos := opens_s B xs (dig c t) L
            by_cases hop : opn B xs (dig c t) L = true
            · rw [if_pos hop] at hos
              rw [hos] at ihL2
              have hlt : dig c t L < c L := by rw [hc']; exact opn_lt (B := B) (v := dig (cntV xs) t) (by rw [← hc']; exact hop)
              have hkey : kf c (t + strd c L) = kf c t + 25 ^ L := by unfold kf; rw [dig_inc hlt, khT_inc L hL6]
              obtain ⟨gg1, gg2, gg3⟩ := ways_st hc' hL6 hop (hb.2.1 t (List.mem_of_getElem? hv)).2 ht6
              have hkmem : kf c (t + strd c L) ∈ ms.map (kf c) ↔ t + strd c L ∈ ms := by
                rw [List.mem_map]
                constructor
                · rintro ⟨u, hu, e⟩; rwa [hkinj u _ (hb.2.1 u hu).1 gg1 e] at hu
                · intro hu; exact ⟨_, hu, rfl⟩
              have hself := hb.self hv L
              have hP : ∀ y, y % 1000000007 < 1000000007 := fun y => Nat.mod_lt _ (by decide)
              obtain ⟨i, hi⟩ := g1.end (kf c (t + strd c L))
              have hat := g1.at hi
              have hpl : (hq (kf c (t + strd c L) + 1) + i) % 65536 < 65536 := Nat.mod_lt _ (by decide)
              have htb := g1.2.1 _ hpl
              rw [List.length_map] at htb
              by_cases hin : t + strd c L ∈ ms
              · have hne : tbl ((hq (kf c (t + strd c L) + 1) + i) % 65536) ≠ 0 := hat.1.mp (hkmem.mpr hin)
                have hix : ms[tbl ((hq (kf c (t + strd c L) + 1) + i) % 65536) - 1]? = some (t + strd c L) := by
                  have e := hat.2 (hkmem.mpr hin)
                  rw [List.getElem?_map] at e
                  cases hq9 : ms[tbl ((hq (kf c (t + strd c L) + 1) + i) % 65536) - 1]? with
                  | none => rw [hq9] at e; cases e
                  | some u =>
                    rw [hq9] at e
                    have e2 : kf c u = kf c (t + strd c L) := by simpa using e
                    rw [hkinj u _ (hb.2.1 u (List.mem_of_getElem? hq9)).1 gg1 e2]
                refine m_aload_n dX12_findBeginnings_161 rfl ?_
                refine m_aload_n dX12_findBeginnings_162 rfl ?_
                refine m_get fl_X12_17 (by decide) rfl rfl dX12_findBeginnings_163 ?_
                refine m_iload_n dX12_findBeginnings_166 rfl ?_
                refine m_iald (by first | exact ⟨by decide, by decide, fun _ => rfl⟩ | exact isI_arr _ (by omega) | exact isI_mv _ (by omega) | exact isI_ne _ (by omega)) (by omega) dX12_findBeginnings_167 ?_
                refine m_eqi (hA3) ?_
                refine m_iload dX12_findBeginnings_168 rfl ?_
                refine m_callVI (hmay d3 hs3.1 k5 k6 k1) cv_X12_212 dX12_findBeginnings_170 (fun r170 d170 h170 => ?_)
                obtain ⟨h170, h171⟩ := h170
                rw [h170, if_pos hop]
                obtain ⟨m1, m2, m3, m4, m5, m6, m7⟩ := after d170 (k2.tr h171)
                refine m_if_eq 309 dX12_findBeginnings_173 (by decide) (fun c173 => by exfalso; exact absurd c173 (by decide)) (fun c173 => ?_)
                first | refine m_iincN 1 dX12_findBeginnings_176 (by decide) rfl rfl ?_ | refine m_iinc dX12_findBeginnings_176 rfl rfl ?_
                refine m_aload_n dX12_findBeginnings_179 rfl ?_
                refine m_get fl_X12_45 (by decide) rfl rfl dX12_findBeginnings_180 ?_
                refine m_iload_n dX12_findBeginnings_183 rfl ?_
                refine m_iald (by first | exact ⟨by decide, by decide, fun _ => rfl⟩ | exact isI_arr _ (by omega) | exact isI_mv _ (by omega) | exact isI_ne _ (by omega)) (by omega) dX12_findBeginnings_184 ?_
                refine m_eqi ((by have := (m1.1 a (by rw [List.length_map]; exact (List.getElem?_eq_some_iff.mp hv).1)).1; rw [hgd ms a t hv] at this; exact this : _ = nI (kf c t))) ?_
                refine m_iload dX12_findBeginnings_185 rfl ?_
                refine m_callSIp (s_X12_power25 hL6) cs_X12_215 dX12_findBeginnings_187 ?_
                first | refine m_iaddN dX12_findBeginnings_190 ?_ | refine m_iadd dX12_findBeginnings_190 ?_
                refine m_eqi ((by rw [← hkey] : _ = nI (kf c (t + strd c L)))) ?_
                refine m_istore dX12_findBeginnings_191 (Nat.le_of_ble_eq_true rfl) rfl ?_
                refine m_aload_n dX12_findBeginnings_193 rfl ?_
                refine m_iload dX12_findBeginnings_194 rfl ?_
                refine m_callVIp (s_X12_placeOf m1 (hkl _) hi) cv_X12_206 dX12_findBeginnings_196 ?_
                refine m_istore dX12_findBeginnings_199 (Nat.le_of_ble_eq_true rfl) rfl ?_
                refine m_aload_n dX12_findBeginnings_201 rfl ?_
                refine m_get fl_X12_53 (by decide) rfl rfl dX12_findBeginnings_202 ?_
                refine m_iload dX12_findBeginnings_205 rfl ?_
                refine m_iald (by first | exact ⟨by decide, by decide, fun _ => rfl⟩ | exact isI_arr _ (by omega) | exact isI_mv _ (by omega) | exact isI_ne _ (by omega)) (by omega) dX12_findBeginnings_207 ?_
                refine m_eqi ((m1.2.1 _ hpl).1) ?_
                first | refine m_if_neN 263 dX12_findBeginnings_208 (by decide) (by omega) (fun c208 => ?_) (fun c208 => by exfalso; omega) | refine m_if_ne 263 dX12_findBeginnings_208 (by decide) (fun c208 => ?_) (fun c208 => by exfalso; omega)
                refine m_aload_n dX12_findBeginnings_263 rfl ?_
                refine m_get fl_X12_53 (by decide) rfl rfl dX12_findBeginnings_264 ?_
                refine m_iload dX12_findBeginnings_267 rfl ?_
                refine m_iald (by first | exact ⟨by decide, by decide, fun _ => rfl⟩ | exact isI_arr _ (by omega) | exact isI_mv _ (by omega) | exact isI_ne _ (by omega)) (by omega) dX12_findBeginnings_269 ?_
                refine m_eqi ((m1.2.1 _ hpl).1) ?_
                first | refine m_if_eqN 309 dX12_findBeginnings_270 (by decide) (by omega) (fun c270 => by exfalso; omega) (fun c270 => ?_) | refine m_if_eq 309 dX12_findBeginnings_270 (by decide) (fun c270 => by exfalso; omega) (fun c270 => ?_)
                refine m_aload_n dX12_findBeginnings_273 rfl ?_
                refine m_get fl_X12_53 (by decide) rfl rfl dX12_findBeginnings_274 ?_
                refine m_iload dX12_findBeginnings_277 rfl ?_
                refine m_iald (by first | exact ⟨by decide, by decide, fun _ => rfl⟩ | exact isI_arr _ (by omega) | exact isI_mv _ (by omega) | exact isI_ne _ (by omega)) (by omega) dX12_findBeginnings_279 ?_
                refine m_eqi ((m1.2.1 _ hpl).1) ?_
                refine m_iconstN 1 dX12_findBeginnings_280 (by decide) ?_
                first | refine m_isubN dX12_findBeginnings_281 (by omega) ?_ | refine m_isub dX12_findBeginnings_281 ?_
                refine m_istore dX12_findBeginnings_282 (Nat.le_of_ble_eq_true rfl) rfl ?_
                refine m_aload_n dX12_findBeginnings_284 rfl ?_
                refine m_get fl_X12_48 (by decide) rfl rfl dX12_findBeginnings_285 ?_
                refine m_iload dX12_findBeginnings_288 rfl ?_
                refine m_aload_n dX12_findBeginnings_290 rfl ?_
                refine m_get fl_X12_48 (by decide) rfl rfl dX12_findBeginnings_291 ?_
                refine m_iload dX12_findBeginnings_294 rfl ?_
                refine m_lald hL2 (by omega) dX12_findBeginnings_296 ?_
                refine m_eql (m4 _ _ hix) ?_
                refine m_aload_n dX12_findBeginnings_297 rfl ?_
                refine m_get fl_X12_48 (by decide) rfl rfl dX12_findBeginnings_298 ?_
                refine m_iload_n dX12_findBeginnings_301 rfl ?_
                refine m_lald hL2 (by omega) dX12_findBeginnings_302 ?_
                refine m_eql ((by rw [m4 a t hv, hself] : _ = lN (ways B xs (dig c t) % 1000000007))) ?_
                first | refine m_laddN dX12_findBeginnings_303 ?_ | refine m_ladd dX12_findBeginnings_303 ?_
                refine m_ldc2 ct_X12_218 dX12_findBeginnings_304 ?_
                refine m_eql (y := lN 1000000007) (by decide +kernel) ?_
                have hp1 := hP (wayD B xs c (edgeD ms a L) (t + strd c L))
                have hp2 := hP (ways B xs (dig c t))
                first | refine m_lremN dX12_findBeginnings_307 (by omega) (by omega) (by omega) ?_ | refine m_lrem dX12_findBeginnings_307 (by decide) ?_
                refine m_last hL2 (by omega) dX12_findBeginnings_308 ?_
                first | refine m_iincN 1 dX12_findBeginnings_309 (by decide) rfl rfl ?_ | refine m_iinc dX12_findBeginnings_309 rfl rfl ?_
                refine m_goto 130 dX12_findBeginnings_312 (by decide) ?_
                refine (ihL2 ms tbl _ _ _ _ hv (hb.no hv (fun _ => hin)) ⟨fun q hq => m1.1 q hq, fun q hq => m1.2.1 q hq, m1.2.2⟩ m2 m3 (fun j v hj => ?_) (fun q hq => m5 q hq) (fun q hq => m6 q hq) (m7.seL (by simp [moBC])))
                rw [hstep v]
                by_cases e : v = t + strd c L
                · rw [if_pos ⟨e, hop⟩]
                  rw [e] at hj ⊢
                  rw [nodup_ix hb.1 hj hix, seL_s', ← Nat.add_mod]
                · rw [if_neg (fun z => e z.1), Nat.add_zero, seL_n _ _ (fun z => by rw [z, hix] at hj; cases hj; exact e rfl)]
                  exact m4 j v hj
              · have h0 : tbl ((hq (kf c (t + strd c L) + 1) + i) % 65536) = 0 := Classical.byContradiction (fun z => hin (hkmem.mp (hat.1.mpr z)))
                have hnk : kf c (t + strd c L) ∉ ms.map (kf c) := fun z => hin (hkmem.mp z)
                have hbn := hb.new hc' hL6 hv hop hin
                have hbl := hbn.len
                rw [List.length_append, List.length_singleton] at hbl
                have hfresh := hb.fresh hv hin
                have hv2 : (ms ++ [t + strd c L])[a]? = some t := by rw [List.getElem?_append_left (List.getElem?_eq_some_iff.mp hv).1]; exact hv
                have hta : (ms ++ [t + strd c L]).take a = ms.take a := List.take_append_of_le_length (Nat.le_of_lt (List.getElem?_eq_some_iff.mp hv).1)
                have hal2 := (List.getElem?_eq_some_iff.mp hv).1
                refine m_aload_n dX12_findBeginnings_161 rfl ?_
                refine m_aload_n dX12_findBeginnings_162 rfl ?_
                refine m_get fl_X12_17 (by decide) rfl rfl dX12_findBeginnings_163 ?_
                refine m_iload_n dX12_findBeginnings_166 rfl ?_
                refine m_iald (by first | exact ⟨by decide, by decide, fun _ => rfl⟩ | exact isI_arr _ (by omega) | exact isI_mv _ (by omega) | exact isI_ne _ (by omega)) (by omega) dX12_findBeginnings_167 ?_
                refine m_eqi (hA3) ?_
                refine m_iload dX12_findBeginnings_168 rfl ?_
                refine m_callVI (hmay d3 hs3.1 k5 k6 k1) cv_X12_212 dX12_findBeginnings_170 (fun r170 d170 h170 => ?_)
                obtain ⟨h170, h171⟩ := h170
                rw [h170, if_pos hop]
                obtain ⟨m1, m2, m3, m4, m5, m6, m7⟩ := after d170 (k2.tr h171)
                refine m_if_eq 309 dX12_findBeginnings_173 (by decide) (fun c173 => by exfalso; exact absurd c173 (by decide)) (fun c173 => ?_)
                first | refine m_iincN 1 dX12_findBeginnings_176 (by decide) rfl rfl ?_ | refine m_iinc dX12_findBeginnings_176 rfl rfl ?_
                refine m_aload_n dX12_findBeginnings_179 rfl ?_
                refine m_get fl_X12_45 (by decide) rfl rfl dX12_findBeginnings_180 ?_
                refine m_iload_n dX12_findBeginnings_183 rfl ?_
                refine m_iald (by first | exact ⟨by decide, by decide, fun _ => rfl⟩ | exact isI_arr _ (by omega) | exact isI_mv _ (by omega) | exact isI_ne _ (by omega)) (by omega) dX12_findBeginnings_184 ?_
                refine m_eqi ((by have := (m1.1 a (by rw [List.length_map]; exact (List.getElem?_eq_some_iff.mp hv).1)).1; rw [hgd ms a t hv] at this; exact this : _ = nI (kf c t))) ?_
                refine m_iload dX12_findBeginnings_185 rfl ?_
                refine m_callSIp (s_X12_power25 hL6) cs_X12_215 dX12_findBeginnings_187 ?_
                first | refine m_iaddN dX12_findBeginnings_190 ?_ | refine m_iadd dX12_findBeginnings_190 ?_
                refine m_eqi ((by rw [← hkey] : _ = nI (kf c (t + strd c L)))) ?_
                refine m_istore dX12_findBeginnings_191 (Nat.le_of_ble_eq_true rfl) rfl ?_
                refine m_aload_n dX12_findBeginnings_193 rfl ?_
                refine m_iload dX12_findBeginnings_194 rfl ?_
                refine m_callVIp (s_X12_placeOf m1 (hkl _) hi) cv_X12_206 dX12_findBeginnings_196 ?_
                refine m_istore dX12_findBeginnings_199 (Nat.le_of_ble_eq_true rfl) rfl ?_
                refine m_aload_n dX12_findBeginnings_201 rfl ?_
                refine m_get fl_X12_53 (by decide) rfl rfl dX12_findBeginnings_202 ?_
                refine m_iload dX12_findBeginnings_205 rfl ?_
                refine m_iald (by first | exact ⟨by decide, by decide, fun _ => rfl⟩ | exact isI_arr _ (by omega) | exact isI_mv _ (by omega) | exact isI_ne _ (by omega)) (by omega) dX12_findBeginnings_207 ?_
                refine m_eqi ((by rw [(m1.2.1 _ hpl).1, h0] : _ = nI 0)) ?_
                first | refine m_if_neN 263 dX12_findBeginnings_208 (by decide) (by omega) (fun c208 => by exfalso; exact absurd rfl c208) (fun c208 => ?_) | refine m_if_ne 263 dX12_findBeginnings_208 (by decide) (fun c208 => by exfalso; exact absurd rfl c208) (fun c208 => ?_)
                refine m_aload_n dX12_findBeginnings_211 rfl ?_
                refine m_get fl_X12_203 (by decide) rfl rfl dX12_findBeginnings_212 ?_
                refine m_eqi (m2) ?_
                refine m_sipushN 20000 dX12_findBeginnings_215 (by decide) ?_
                first | refine m_icmp_gtN 263 dX12_findBeginnings_218 (by decide) (by omega) (by omega) (fun c218 => by exfalso; omega) (fun c218 => ?_) | refine m_icmp_gt 263 dX12_findBeginnings_218 (by decide) (fun c218 => by exfalso; omega) (fun c218 => ?_)
                refine m_aload_n dX12_findBeginnings_221 rfl ?_
                refine m_get fl_X12_45 (by decide) rfl rfl dX12_findBeginnings_222 ?_
                refine m_aload_n dX12_findBeginnings_225 rfl ?_
                refine m_get fl_X12_203 (by decide) rfl rfl dX12_findBeginnings_226 ?_
                refine m_eqi (m2) ?_
                refine m_iload dX12_findBeginnings_229 rfl ?_
                refine m_iast hI1 (by omega) dX12_findBeginnings_231 ?_
                refine m_aload_n dX12_findBeginnings_232 rfl ?_
                refine m_get fl_X12_48 (by decide) rfl rfl dX12_findBeginnings_233 ?_
                refine m_aload_n dX12_findBeginnings_236 rfl ?_
                refine m_get fl_X12_203 (by decide) rfl rfl dX12_findBeginnings_237 ?_
                refine m_eqi ((se_e m2 (by decide) : _ = nI ms.length)) ?_
                refine m_lconstN 0 dX12_findBeginnings_240 (by decide) ?_
                refine m_last hL2 (by omega) dX12_findBeginnings_241 ?_
                refine m_aload_n dX12_findBeginnings_242 rfl ?_
                refine m_dup dX12_findBeginnings_243 rfl ?_
                refine m_get fl_X12_203 (by decide) rfl rfl dX12_findBeginnings_244 ?_
                refine m_eqi ((sl_e (se_e m2 (by decide)) : _ = nI ms.length)) ?_
                refine m_iconstN 1 dX12_findBeginnings_247 (by decide) ?_
                first | refine m_iaddN dX12_findBeginnings_248 ?_ | refine m_iadd dX12_findBeginnings_248 ?_
                refine m_put fl_X12_203 (by decide) rfl (Nat.le_of_ble_eq_true rfl) rfl dX12_findBeginnings_249 ?_
                refine m_aload_n dX12_findBeginnings_252 rfl ?_
                refine m_get fl_X12_53 (by decide) rfl rfl dX12_findBeginnings_253 ?_
                refine m_iload dX12_findBeginnings_256 rfl ?_
                refine m_aload_n dX12_findBeginnings_258 rfl ?_
                refine m_get fl_X12_203 (by decide) rfl rfl dX12_findBeginnings_259 ?_
                refine m_eqi ((se_s _ _ _ _ : _ = nI (ms.length + 1))) ?_
                refine m_iast (by first | exact ⟨by decide, by decide, fun _ => rfl⟩ | exact isI_arr _ (by omega) | exact isI_mv _ (by omega) | exact isI_ne _ (by omega)) (by omega) dX12_findBeginnings_262 ?_
                refine m_aload_n dX12_findBeginnings_263 rfl ?_
                refine m_get fl_X12_53 (by decide) rfl rfl dX12_findBeginnings_264 ?_
                refine m_iload dX12_findBeginnings_267 rfl ?_
                refine m_iald (by first | exact ⟨by decide, by decide, fun _ => rfl⟩ | exact isI_arr _ (by omega) | exact isI_mv _ (by omega) | exact isI_ne _ (by omega)) (by omega) dX12_findBeginnings_269 ?_
                refine m_eqi ((se_s _ _ _ _ : _ = nI (ms.length + 1))) ?_
                first | refine m_if_eqN 309 dX12_findBeginnings_270 (by decide) (by omega) (fun c270 => by exfalso; omega) (fun c270 => ?_) | refine m_if_eq 309 dX12_findBeginnings_270 (by decide) (fun c270 => by exfalso; omega) (fun c270 => ?_)
                refine m_aload_n dX12_findBeginnings_273 rfl ?_
                refine m_get fl_X12_53 (by decide) rfl rfl dX12_findBeginnings_274 ?_
                refine m_iload dX12_findBeginnings_277 rfl ?_
                refine m_iald (by first | exact ⟨by decide, by decide, fun _ => rfl⟩ | exact isI_arr _ (by omega) | exact isI_mv _ (by omega) | exact isI_ne _ (by omega)) (by omega) dX12_findBeginnings_279 ?_
                refine m_eqi ((se_s _ _ _ _ : _ = nI (ms.length + 1))) ?_
                refine m_iconstN 1 dX12_findBeginnings_280 (by decide) ?_
                first | refine m_isubN dX12_findBeginnings_281 (by omega) ?_ | refine m_isub dX12_findBeginnings_281 ?_
                refine m_eqi ((by rw [Nat.add_sub_cancel] : _ = nI ms.length)) ?_
                refine m_istore dX12_findBeginnings_282 (Nat.le_of_ble_eq_true rfl) rfl ?_
                refine m_aload_n dX12_findBeginnings_284 rfl ?_
                refine m_get fl_X12_48 (by decide) rfl rfl dX12_findBeginnings_285 ?_
                refine m_iload dX12_findBeginnings_288 rfl ?_
                refine m_aload_n dX12_findBeginnings_290 rfl ?_
                refine m_get fl_X12_48 (by decide) rfl rfl dX12_findBeginnings_291 ?_
                refine m_iload dX12_findBeginnings_294 rfl ?_
                refine m_lald hL2 (by omega) dX12_findBeginnings_296 ?_
                refine m_eql ((si_e (si_e (seL_s' _ _ _ _)) : _ = lN 0)) ?_
                refine m_aload_n dX12_findBeginnings_297 rfl ?_
                refine m_get fl_X12_48 (by decide) rfl rfl dX12_findBeginnings_298 ?_
                refine m_iload_n dX12_findBeginnings_301 rfl ?_
                refine m_lald hL2 (by omega) dX12_findBeginnings_302 ?_
                refine m_eql ((by rw [show (seI (seI (seL (seI d170 251 ms.length (nI (kf c (t + strd c L)))) 252 ms.length (lN 0)) 240 24 (nI (ms.length + 1))) 253 ((hq (kf c (t + strd c L) + 1) + i) % 65536) (nI (ms.length + 1))).2 252 a = (seL (seI d170 251 ms.length (nI (kf c (t + strd c L)))) 252 ms.length (lN 0)).2 252 a from rfl, seL_n _ _ (by omega)]; exact (m4 a t hv).trans (by rw [hself]) : _ = lN (ways B xs (dig c t) % 1000000007))) ?_
                first | refine m_laddN dX12_findBeginnings_303 ?_ | refine m_ladd dX12_findBeginnings_303 ?_
                refine m_ldc2 ct_X12_218 dX12_findBeginnings_304 ?_
                refine m_eql (y := lN 1000000007) (by decide +kernel) ?_
                have hp2 := hP (ways B xs (dig c t))
                first | refine m_lremN dX12_findBeginnings_307 (by omega) (by omega) (by omega) ?_ | refine m_lrem dX12_findBeginnings_307 (by decide) ?_
                refine m_last hL2 (by omega) dX12_findBeginnings_308 ?_
                first | refine m_iincN 1 dX12_findBeginnings_309 (by decide) rfl rfl ?_ | refine m_iinc dX12_findBeginnings_309 rfl rfl ?_
                refine m_goto 130 dX12_findBeginnings_312 (by decide) ?_
                rw [Nat.zero_add, Nat.mod_mod]
                have ih9 := ihL2 (ms ++ [t + strd c L]) (fun q => if q = (hq (kf c (t + strd c L) + 1) + i) % 65536 then ms.length + 1 else tbl q) (seL (seI (seI (seL (seI d170 251 ms.length (nI (kf c (t + strd c L)))) 252 ms.length (lN 0)) 240 24 (nI (ms.length + 1))) 253 ((hq (kf c (t + strd c L) + 1) + i) % 65536) (nI (ms.length + 1))) 252 ms.length (lN (ways B xs (dig c t) % 1000000007)))
                refine ih9 _ _ _ hv2 hbn ?_ ?_ ?_ (fun j v hj => ?_) (fun q hq => sl_e (se_e (se_e (sl_e (se_e (m5 q hq) (by decide))) (by decide)) (by decide))) (fun q hq => sl_e (se_e (se_e (sl_e (se_e (m6 q hq) (by decide))) (by decide)) (by decide))) (((((m7.se (by simp [moBC]) (by decide)).seL (by simp [moBC])).fld (by decide)).se (by simp [moBC]) (by decide)).seL (by simp [moBC]))
                · rw [List.map_append]
                  have hput := tbIs.put (d' := seL (seI (seI (seL (seI d170 251 ms.length (nI (kf c (t + strd c L)))) 252 ms.length (lN 0)) 240 24 (nI (ms.length + 1))) 253 ((hq (kf c (t + strd c L) + 1) + i) % 65536) (nI (ms.length + 1))) 252 ms.length (lN (ways B xs (dig c t) % 1000000007))) m1 hi hnk (hkl _) (by rw [List.length_map]; omega)
                  rw [List.length_map] at hput
                  exact hput (sl_e (se_e (se_e (sl_e (se_s _ _ _ _)) (by decide)) (by decide))) (fun q hq => sl_e (se_e (se_e (sl_e (se_n _ _ hq)) (by decide)) (by decide))) (sl_e (se_s _ _ _ _)) (fun q hq => sl_e ((se_n _ _ hq).trans (se_e (sl_e (se_e rfl (by decide))) (by decide))))
                · rw [List.length_append]; exact sl_e (se_e (se_s _ _ _ _) (by decide))
                · rw [hta]; exact sl_e (se_e (se_e2 (sl_e (se_e m3 (by decide))) (by decide)) (by decide))
                · rw [wayD_cg (fun q _ u => edge_app hv q u), hstep v]
                  by_cases e : j < ms.length
                  · have hj2 : ms[j]? = some v := by rw [List.getElem?_append_left e] at hj; exact hj
                    have hvne : v ≠ t + strd c L := fun z => hin (z ▸ List.mem_of_getElem? hj2)
                    rw [if_neg (fun z => hvne z.1), Nat.add_zero, seL_n _ _ (by omega)]
                    show (seL (seI d170 251 ms.length (nI (kf c (t + strd c L)))) 252 ms.length (lN 0)).2 252 j = _
                    rw [seL_n _ _ (by omega)]
                    exact m4 j v hj2
                  · have hj3 := (List.getElem?_eq_some_iff.mp hj).1
                    rw [List.length_append, List.length_singleton] at hj3
                    have e9 : j = ms.length := by omega
                    subst e9
                    rw [List.getElem?_append_right (Nat.le_refl _), Nat.sub_self] at hj
                    cases hj
                    rw [if_pos ⟨rfl, hop⟩, hfresh, Nat.zero_add]
                    exact seL_s' _ _ _ _
            · rw [if_neg hop, Nat.add_zero] at hos
              rw [hos] at ihL2
              refine m_aload_n dX12_findBeginnings_161 rfl ?_
              refine m_aload_n dX12_findBeginnings_162 rfl ?_
              refine m_get fl_X12_17 (by decide) rfl rfl dX12_findBeginnings_163 ?_
              refine m_iload_n dX12_findBeginnings_166 rfl ?_
              refine m_iald (by first | exact ⟨by decide, by decide, fun _ => rfl⟩ | exact isI_arr _ (by omega) | exact isI_mv _ (by omega) | exact isI_ne _ (by omega)) (by omega) dX12_findBeginnings_167 ?_
              refine m_eqi (hA3) ?_
              refine m_iload dX12_findBeginnings_168 rfl ?_
              refine m_callVI (hmay d3 hs3.1 k5 k6 k1) cv_X12_212 dX12_findBeginnings_170 (fun r170 d170 h170 => ?_)
              obtain ⟨h170, h171⟩ := h170
              rw [h170, if_neg hop]
              obtain ⟨m1, m2, m3, m4, m5, m6, m7⟩ := after d170 (k2.tr h171)
              refine m_if_eq 309 dX12_findBeginnings_173 (by decide) (fun c173 => ?_) (fun c173 => by exfalso; exact c173 rfl)
              first | refine m_iincN 1 dX12_findBeginnings_309 (by decide) rfl rfl ?_ | refine m_iinc dX12_findBeginnings_309 rfl rfl ?_
              refine m_goto 130 dX12_findBeginnings_312 (by decide) ?_
              exact (ihL2 ms tbl _ _ _ _ hv (hb.no hv (fun z => absurd z hop)) m1 m2 m3 (fun j v hj => by rw [hstep v, if_neg (fun z => hop z.2), Nat.add_zero]; exact m4 j v hj) m5 m6 m7)
          have restl : ∀ i, i ≤ 6 → ∀ d3, (∀ q, q < i → d3.1 255 q = nI 0) → chg [255] d2 d3 → mG W K cX12_findBeginnings RX12 (dep + 2) d3 140 [some (.ref (xad W 240)), some (.int (nI n)), some (.int (nI a)), some (.int (nI 0)), some (.int (nI (opens B xs (dig c t) L))), some (.int (nI L)), some (.int (nI i)), o7, o8] [] := x_up _ (fun i hi ih d3 k1 k2 => by
            by_cases hin : i < 6
            · skip
              refine m_iload dX12_findBeginnings_140 rfl ?_
              refine m_bipushN 6 dX12_findBeginnings_142 (by decide) ?_
              first | refine m_icmp_geN 161 dX12_findBeginnings_144 (by decide) (by omega) (by omega) (fun c144 => by exfalso; omega) (fun c144 => ?_) | refine m_icmp_ge 161 dX12_findBeginnings_144 (by decide) (fun c144 => by exfalso; omega) (fun c144 => ?_)
              refine m_aload_n dX12_findBeginnings_147 rfl ?_
              refine m_get fl_X12_59 (by decide) rfl rfl dX12_findBeginnings_148 ?_
              refine m_iload dX12_findBeginnings_151 rfl ?_
              refine m_iconstN 0 dX12_findBeginnings_153 (by decide) ?_
              refine m_iast (by first | exact ⟨by decide, by decide, fun _ => rfl⟩ | exact isI_arr _ (by omega) | exact isI_mv _ (by omega) | exact isI_ne _ (by omega)) (by omega) dX12_findBeginnings_154 ?_
              first | refine m_iincN 1 dX12_findBeginnings_155 (by decide) rfl rfl ?_ | refine m_iinc dX12_findBeginnings_155 rfl rfl ?_
              refine m_goto 140 dX12_findBeginnings_158 (by decide) ?_
              refine ih hin _ (fun q hq => ?_) (k2.se (by simp))
              by_cases e : q = i
              · subst e; exact se_s _ _ _ _
              · exact se_e2 (k1 q (by omega)) e
            · have e6 : i = 6 := by omega
              subst e6
              refine m_iload dX12_findBeginnings_140 rfl ?_
              refine m_bipushN 6 dX12_findBeginnings_142 (by decide) ?_
              first | refine m_icmp_geN 161 dX12_findBeginnings_144 (by decide) (by omega) (by omega) (fun c144 => ?_) (fun c144 => by exfalso; omega) | refine m_icmp_ge 161 dX12_findBeginnings_144 (by decide) (fun c144 => ?_) (fun c144 => by exfalso; omega)
              exact stage2 d3 _ _ k1 k2
            )
          refine m_iload dX12_findBeginnings_130 rfl ?_
          refine m_bipushN 6 dX12_findBeginnings_132 (by decide) ?_
          first | refine m_icmp_geN 315 dX12_findBeginnings_134 (by decide) (by omega) (by omega) (fun c134 => by exfalso; omega) (fun c134 => ?_) | refine m_icmp_ge 315 dX12_findBeginnings_134 (by decide) (fun c134 => by exfalso; omega) (fun c134 => ?_)
          refine m_iconstN 0 dX12_findBeginnings_137 (by decide) ?_
          refine m_istore dX12_findBeginnings_138 (Nat.le_of_ble_eq_true rfl) rfl ?_
          exact restl 0 (Nat.zero_le _) d2 (fun q hq => absurd hq (Nat.not_lt_zero q)) chg.rf
        · have e6 : L = 6 := by omega
          subst e6
          rw [opens_6] at hop9 ⊢
          have hal2 := (List.getElem?_eq_some_iff.mp hv).1
          have hmx : mxL B xs c (ms.take (a + 1)) = max (mxL B xs c (ms.take a)) (wideV B xs (dig c t)) := by
            rw [take_s hal2, (List.getElem?_eq_some_iff.mp hv).2, mxL_s]
          have hmxl2 : mxL B xs c (ms.take a) ≤ 6 := (foldmax_le _ 6 _ 0).mpr ⟨by decide, fun u _ => wide_le _ _ _⟩
          have hnext : ∀ (d3 : xD) o3 o4 o5 o6 o7 o8, d3.1 240 25 = nI (mxL B xs c (ms.take (a + 1))) → (∀ o, o ≠ 240 → d3.1 o = d2.1 o) → d3.1 240 24 = d2.1 240 24 → d3.2 = d2.2 → chK moBC d d3 → mG W K cX12_findBeginnings RX12 (dep + 2) d3 67 [some (.ref (xad W 240)), some (.int (nI n)), some (.int (nI (a + 1))), o3, o4, o5, o6, o7, o8] [] := fun d3 o3 o4 o5 o6 o7 o8 q1 q2 q3 q4 q5 => ihN (a + 1) ms tbl d3 o3 o4 o5 o6 o7 o8 (by omega) (by omega) (hb.done hv) ⟨fun i hi => by rw [q2 251 (by decide)]; exact g1.1 i hi, fun i hi => by rw [q2 253 (by decide)]; exact g1.2.1 i hi, g1.2.2⟩ (q3.trans g2) q1 (fun i v hi => by rw [q4, wayD_cg (fun q hq u => edge_up hv hq u)]; exact g4 i v hi) (fun q hq => by rw [q2 246 (by decide)]; exact g5 q hq) q5
          by_cases hle : wideV B xs (dig c t) ≤ mxL B xs c (ms.take a)
          · have hmx2 : mxL B xs c (ms.take (a + 1)) = mxL B xs c (ms.take a) := by rw [hmx]; omega
            rw [hmx2] at hnext
            refine m_iload dX12_findBeginnings_130 rfl ?_
            refine m_bipushN 6 dX12_findBeginnings_132 (by decide) ?_
            first | refine m_icmp_geN 315 dX12_findBeginnings_134 (by decide) (by omega) (by omega) (fun c134 => ?_) (fun c134 => by exfalso; omega) | refine m_icmp_ge 315 dX12_findBeginnings_134 (by decide) (fun c134 => ?_) (fun c134 => by exfalso; omega)
            refine m_aload_n dX12_findBeginnings_315 rfl ?_
            refine m_iload dX12_findBeginnings_316 rfl ?_
            refine m_aload_n dX12_findBeginnings_318 rfl ?_
            refine m_get fl_X12_209 (by decide) rfl rfl dX12_findBeginnings_319 ?_
            refine m_eqi (g3) ?_
            first | refine m_icmp_leN 330 dX12_findBeginnings_322 (by decide) (by omega) (by omega) (fun c322 => ?_) (fun c322 => by exfalso; omega) | refine m_icmp_le 330 dX12_findBeginnings_322 (by decide) (fun c322 => ?_) (fun c322 => by exfalso; omega)
            refine m_aload_n dX12_findBeginnings_330 rfl ?_
            refine m_get fl_X12_209 (by decide) rfl rfl dX12_findBeginnings_331 ?_
            refine m_eqi (g3) ?_
            refine m_put fl_X12_209 (by decide) rfl (Nat.le_of_ble_eq_true rfl) rfl dX12_findBeginnings_334 ?_
            first | refine m_iincN 1 dX12_findBeginnings_337 (by decide) rfl rfl ?_ | refine m_iinc dX12_findBeginnings_337 rfl rfl ?_
            refine m_goto 67 dX12_findBeginnings_340 (by decide) ?_
            exact hnext _ _ _ _ _ _ _ (se_s _ _ _ _) (fun o ho => seI_o _ _ _ _ o ho) (se_n _ _ (by decide)) rfl (g7.fld (by decide))
          · have hmx2 : mxL B xs c (ms.take (a + 1)) = wideV B xs (dig c t) := by rw [hmx]; omega
            rw [hmx2] at hnext
            refine m_iload dX12_findBeginnings_130 rfl ?_
            refine m_bipushN 6 dX12_findBeginnings_132 (by decide) ?_
            first | refine m_icmp_geN 315 dX12_findBeginnings_134 (by decide) (by omega) (by omega) (fun c134 => ?_) (fun c134 => by exfalso; omega) | refine m_icmp_ge 315 dX12_findBeginnings_134 (by decide) (fun c134 => ?_) (fun c134 => by exfalso; omega)
            refine m_aload_n dX12_findBeginnings_315 rfl ?_
            refine m_iload dX12_findBeginnings_316 rfl ?_
            refine m_aload_n dX12_findBeginnings_318 rfl ?_
            refine m_get fl_X12_209 (by decide) rfl rfl dX12_findBeginnings_319 ?_
            refine m_eqi (g3) ?_
            first | refine m_icmp_leN 330 dX12_findBeginnings_322 (by decide) (by omega) (by omega) (fun c322 => by exfalso; omega) (fun c322 => ?_) | refine m_icmp_le 330 dX12_findBeginnings_322 (by decide) (fun c322 => by exfalso; omega) (fun c322 => ?_)
            refine m_iload dX12_findBeginnings_325 rfl ?_
            refine m_goto 334 dX12_findBeginnings_327 (by decide) ?_
            refine m_put fl_X12_209 (by decide) rfl (Nat.le_of_ble_eq_true rfl) rfl dX12_findBeginnings_334 ?_
            first | refine m_iincN 1 dX12_findBeginnings_337 (by decide) rfl rfl ?_ | refine m_iinc dX12_findBeginnings_337 rfl rfl ?_
            refine m_goto 67 dX12_findBeginnings_340 (by decide) ?_
            exact hnext _ _ _ _ _ _ _ (se_s _ _ _ _) (fun o ho => seI_o _ _ _ _ o ho) (se_n _ _ (by decide)) rfl (g7.fld (by decide))
        )
      -- the digits
      have digl : ∀ i, i ≤ 6 → ∀ d2, (∀ q, q < i → d2.1 254 q = nI (dig c t q)) → chg [254] d1 d2 → mG W K cX12_findBeginnings RX12 (dep + 2) d2 95 [some (.ref (xad W 240)), some (.int (nI n)), some (.int (nI a)), some (.int (nI (khT (dig c t) i))), some (.int (nI i)), o5, o6, o7, o8] [] := x_up _ (fun i hi ih d2 k1 k2 => by
        have hkt := khT_lt (f := dig c t) (fun q _ => hdl t q) i hi
        by_cases hin : i < 6
        · have hst := khT_step (f := dig c t) i hin (hdl t i)
          refine m_iload dX12_findBeginnings_95 rfl ?_
          refine m_bipushN 6 dX12_findBeginnings_97 (by decide) ?_
          first | refine m_icmp_geN 124 dX12_findBeginnings_99 (by decide) (by omega) (by omega) (fun c99 => by exfalso; omega) (fun c99 => ?_) | refine m_icmp_ge 124 dX12_findBeginnings_99 (by decide) (fun c99 => by exfalso; omega) (fun c99 => ?_)
          refine m_aload_n dX12_findBeginnings_102 rfl ?_
          refine m_get fl_X12_56 (by decide) rfl rfl dX12_findBeginnings_103 ?_
          refine m_iload dX12_findBeginnings_106 rfl ?_
          refine m_iload_n dX12_findBeginnings_108 rfl ?_
          refine m_bipushN 25 dX12_findBeginnings_109 (by decide) ?_
          first | refine m_iremN dX12_findBeginnings_111 (by omega) (by omega) (by omega) ?_ | refine m_irem dX12_findBeginnings_111 (by decide) ?_
          refine m_eqi ((by rw [hst.1] : _ = nI (dig c t i))) ?_
          refine m_iast (by first | exact ⟨by decide, by decide, fun _ => rfl⟩ | exact isI_arr _ (by omega) | exact isI_mv _ (by omega) | exact isI_ne _ (by omega)) (by omega) dX12_findBeginnings_112 ?_
          refine m_iload_n dX12_findBeginnings_113 rfl ?_
          refine m_bipushN 25 dX12_findBeginnings_114 (by decide) ?_
          first | refine m_idivN dX12_findBeginnings_116 (by omega) (by omega) (by omega) ?_ | refine m_idiv dX12_findBeginnings_116 (by decide) ?_
          refine m_eqi ((by rw [hst.2] : _ = nI (khT (dig c t) (i + 1)))) ?_
          refine m_istore_n dX12_findBeginnings_117 (Nat.le_of_ble_eq_true rfl) rfl ?_
          first | refine m_iincN 1 dX12_findBeginnings_118 (by decide) rfl rfl ?_ | refine m_iinc dX12_findBeginnings_118 rfl rfl ?_
          refine m_goto 95 dX12_findBeginnings_121 (by decide) ?_
          refine ih hin _ (fun q hq => ?_) (k2.se (by simp))
          by_cases e : q = i
          · subst e; exact se_s _ _ _ _
          · exact se_e2 (k1 q (by omega)) e
        · have e6 : i = 6 := by omega
          subst e6
          refine m_iload dX12_findBeginnings_95 rfl ?_
          refine m_bipushN 6 dX12_findBeginnings_97 (by decide) ?_
          first | refine m_icmp_geN 124 dX12_findBeginnings_99 (by decide) (by omega) (by omega) (fun c99 => ?_) (fun c99 => by exfalso; omega) | refine m_icmp_ge 124 dX12_findBeginnings_99 (by decide) (fun c99 => ?_) (fun c99 => by exfalso; omega)
          refine m_iconstN 0 dX12_findBeginnings_124 (by decide) ?_
          refine m_istore dX12_findBeginnings_125 (Nat.le_of_ble_eq_true rfl) rfl ?_
          refine m_iconstN 0 dX12_findBeginnings_127 (by decide) ?_
          refine m_istore dX12_findBeginnings_128 (Nat.le_of_ble_eq_true rfl) rfl ?_
          exact inner 0 (Nat.zero_le _) ms tbl d2 _ _ _ hv hb (h1.fr k2 (by simp) (by simp)) (by rw [(k2 240 (by simp)).1]; exact h2) (by rw [(k2 240 (by simp)).1]; exact h3) (fun i v hi => by rw [(k2 252 (by simp)).2]; exact h4 i v hi) (h5.fr k2 (by simp)) k1 (h6.tr (chK.of (k2.mono (by simp [moBC])) (by simp [moBC])))
        )
      have hk0 := (h1.1 a (by rw [List.length_map]; exact hal)).1
      rw [hgd ms a t hv] at hk0
      refine m_iload_n dX12_findBeginnings_67 rfl ?_
      refine m_aload_n dX12_findBeginnings_68 rfl ?_
      refine m_get fl_X12_203 (by decide) rfl rfl dX12_findBeginnings_69 ?_
      refine m_eqi (h2) ?_
      first | refine m_icmp_geN 343 dX12_findBeginnings_72 (by decide) (by omega) (by omega) (fun c72 => by exfalso; omega) (fun c72 => ?_) | refine m_icmp_ge 343 dX12_findBeginnings_72 (by decide) (fun c72 => by exfalso; omega) (fun c72 => ?_)
      refine m_aload_n dX12_findBeginnings_75 rfl ?_
      refine m_get fl_X12_203 (by decide) rfl rfl dX12_findBeginnings_76 ?_
      refine m_eqi (h2) ?_
      refine m_sipushN 20000 dX12_findBeginnings_79 (by decide) ?_
      first | refine m_icmp_gtN 343 dX12_findBeginnings_82 (by decide) (by omega) (by omega) (fun c82 => by exfalso; omega) (fun c82 => ?_) | refine m_icmp_gt 343 dX12_findBeginnings_82 (by decide) (fun c82 => by exfalso; omega) (fun c82 => ?_)
      refine m_aload_n dX12_findBeginnings_85 rfl ?_
      refine m_get fl_X12_45 (by decide) rfl rfl dX12_findBeginnings_86 ?_
      refine m_iload_n dX12_findBeginnings_89 rfl ?_
      refine m_iald (by first | exact ⟨by decide, by decide, fun _ => rfl⟩ | exact isI_arr _ (by omega) | exact isI_mv _ (by omega) | exact isI_ne _ (by omega)) (by omega) dX12_findBeginnings_90 ?_
      refine m_eqi (hk0) ?_
      refine m_istore_n dX12_findBeginnings_91 (Nat.le_of_ble_eq_true rfl) rfl ?_
      refine m_iconstN 0 dX12_findBeginnings_92 (by decide) ?_
      refine m_istore dX12_findBeginnings_93 (Nat.le_of_ble_eq_true rfl) rfl ?_
      exact digl 0 (by decide) d1 (fun q hq => absurd hq (Nat.not_lt_zero q)) chg.rf
    · have e6 : a = ms.length := by omega
      subst e6
      have hpos : 0 < ms.length := Nat.pos_of_ne_zero (fun z => by have := (List.getElem?_eq_some_iff.mp hb.2.2.1).1; omega)
      have hsp := strd_pos c 6
      have hfull : wayD B xs c (edgeD ms ms.length 0) (strd c 6 - 1) = ways B xs (dig c (strd c 6 - 1)) := wayD_self (by omega) (fun q hq p1 p2 p3 => by
        obtain ⟨i1, i2, i3⟩ := pre_info hq p1
        rw [i1] at p3
        unfold edgeD
        rw [List.take_length, show decide (strd c 6 - 1 - strd c q ∈ ms) = true from decide_eq_true (hb.all (by omega) p3)]
        rfl)
      rw [List.take_length] at h3
      refine m_iload_n dX12_findBeginnings_67 rfl ?_
      refine m_aload_n dX12_findBeginnings_68 rfl ?_
      refine m_get fl_X12_203 (by decide) rfl rfl dX12_findBeginnings_69 ?_
      refine m_eqi (h2) ?_
      first | refine m_icmp_geN 343 dX12_findBeginnings_72 (by decide) (by omega) (by omega) (fun c72 => ?_) (fun c72 => by exfalso; omega) | refine m_icmp_ge 343 dX12_findBeginnings_72 (by decide) (fun c72 => ?_) (fun c72 => by exfalso; omega)
      exact m_vret hR dX12_findBeginnings_343 (⟨by rw [hb.cnt]; exact h2, by rw [hb.cnt]; exact hpos, by rw [hb.cnt, h4 _ _ (hb.last hc' hx6), hfull], by rw [hb.max]; exact h3, h6⟩)
  -- the table is empty
  have start : ∀ i, i ≤ 65536 → ∀ d1, (∀ q, q < i → d1.1 253 q = nI 0) → arrB d1 246 xs → chK moBC d d1 → mG W K cX12_findBeginnings RX12 (dep + 2) d1 11 [some (.ref (xad W 240)), some (.int (nI n)), some (.int (nI i)), none, none, none, none, none, none] [] := x_up _ (fun i hi ih d1 k1 k2 k3 => by
    by_cases hin : i < 65536
    · skip
      refine m_iload_n dX12_findBeginnings_11 rfl ?_
      refine m_ldc ct_X12_52 dX12_findBeginnings_12 ?_
      refine m_eqi (y := nI 65536) (by decide +kernel) ?_
      first | refine m_icmp_geN 30 dX12_findBeginnings_14 (by decide) (by omega) (by omega) (fun c14 => by exfalso; omega) (fun c14 => ?_) | refine m_icmp_ge 30 dX12_findBeginnings_14 (by decide) (fun c14 => by exfalso; omega) (fun c14 => ?_)
      refine m_aload_n dX12_findBeginnings_17 rfl ?_
      refine m_get fl_X12_53 (by decide) rfl rfl dX12_findBeginnings_18 ?_
      refine m_iload_n dX12_findBeginnings_21 rfl ?_
      refine m_iconstN 0 dX12_findBeginnings_22 (by decide) ?_
      refine m_iast hI3 (by omega) dX12_findBeginnings_23 ?_
      first | refine m_iincN 1 dX12_findBeginnings_24 (by decide) rfl rfl ?_ | refine m_iinc dX12_findBeginnings_24 rfl rfl ?_
      refine m_goto 11 dX12_findBeginnings_27 (by decide) ?_
      refine ih hin _ (fun q hq => ?_) (fun q hq => se_e (k2 q hq) (by decide)) (k3.se (by simp [moBC]) (by decide))
      by_cases e : q = i
      · subst e; exact se_s _ _ _ _
      · exact se_e2 (k1 q (by omega)) e
    · have e6 : i = 65536 := by omega
      subst e6
      have hempty : ∀ d2 : xD, (∀ q, q < 65536 → d2.1 253 q = nI 0) → tbIs d2 (fun _ => 0) [] := fun d2 h => ⟨fun q hq => absurd hq (Nat.not_lt_zero q), fun q hq => ⟨h q hq, Nat.le_refl _⟩, ⟨fun a ha h0 => absurd rfl h0, fun a b ha hb h0 => absurd rfl h0, fun v hv => by cases hv⟩, Nat.zero_le _⟩
      have hend0 : endAt (fun _ => 0) [] 0 0 := ⟨by decide, Or.inl rfl, fun i' hi' => absurd hi' (Nat.not_lt_zero i')⟩
      have hk00 : kf c 0 = 0 := by unfold kf khT; simp [dig_0]
      have hpl : (hq (0 + 1) + 0) % 65536 < 65536 := Nat.mod_lt _ (by decide)
      have hst := bfs.start (B := B) (xs := xs) (c := c)
      refine m_iload_n dX12_findBeginnings_11 rfl ?_
      refine m_ldc ct_X12_52 dX12_findBeginnings_12 ?_
      refine m_eqi (y := nI 65536) (by decide +kernel) ?_
      first | refine m_icmp_geN 30 dX12_findBeginnings_14 (by decide) (by omega) (by omega) (fun c14 => ?_) (fun c14 => by exfalso; omega) | refine m_icmp_ge 30 dX12_findBeginnings_14 (by decide) (fun c14 => ?_) (fun c14 => by exfalso; omega)
      refine m_aload_n dX12_findBeginnings_30 rfl ?_
      refine m_get fl_X12_45 (by decide) rfl rfl dX12_findBeginnings_31 ?_
      refine m_iconstN 0 dX12_findBeginnings_34 (by decide) ?_
      refine m_iconstN 0 dX12_findBeginnings_35 (by decide) ?_
      refine m_iast (by first | exact ⟨by decide, by decide, fun _ => rfl⟩ | exact isI_arr _ (by omega) | exact isI_mv _ (by omega) | exact isI_ne _ (by omega)) (by omega) dX12_findBeginnings_36 ?_
      refine m_aload_n dX12_findBeginnings_37 rfl ?_
      refine m_get fl_X12_48 (by decide) rfl rfl dX12_findBeginnings_38 ?_
      refine m_iconstN 0 dX12_findBeginnings_41 (by decide) ?_
      refine m_lconstN 1 dX12_findBeginnings_42 (by decide) ?_
      refine m_last hL2 (by omega) dX12_findBeginnings_43 ?_
      refine m_aload_n dX12_findBeginnings_44 rfl ?_
      refine m_iconstN 1 dX12_findBeginnings_45 (by decide) ?_
      refine m_put fl_X12_203 (by decide) rfl (Nat.le_of_ble_eq_true rfl) rfl dX12_findBeginnings_46 ?_
      refine m_aload_n dX12_findBeginnings_49 rfl ?_
      refine m_get fl_X12_53 (by decide) rfl rfl dX12_findBeginnings_50 ?_
      refine m_aload_n dX12_findBeginnings_53 rfl ?_
      refine m_iconstN 0 dX12_findBeginnings_54 (by decide) ?_
      refine m_callVIp (s_X12_placeOf (tbl := fun _ => 0) (ks := []) (key := 0) (i := 0) (hempty _ (fun q hq => se_e (sl_e (se_e (k1 q hq) (by decide))) (by decide))) (by decide) hend0) cv_X12_206 dX12_findBeginnings_55 ?_
      refine m_iconstN 1 dX12_findBeginnings_58 (by decide) ?_
      refine m_iast hI3 hpl dX12_findBeginnings_59 ?_
      refine m_aload_n dX12_findBeginnings_60 rfl ?_
      refine m_iconstN 0 dX12_findBeginnings_61 (by decide) ?_
      refine m_put fl_X12_209 (by decide) rfl (Nat.le_of_ble_eq_true rfl) rfl dX12_findBeginnings_62 ?_
      refine m_iconstN 0 dX12_findBeginnings_65 (by decide) ?_
      refine m_istore_n dX12_findBeginnings_66 (Nat.le_of_ble_eq_true rfl) rfl ?_
      refine outer 20000 0 [0] (fun a => if a = (hq (0 + 1) + 0) % 65536 then 0 + 1 else 0) _ _ _ _ _ _ _ (Nat.sub_zero _) (Nat.zero_le _) hst ?_ (se_e2 (se_e (se_s _ _ _ _) (by decide)) (by decide)) (se_s _ _ _ _) (fun j v hj => ?_) (fun q hq => se_e (se_e (se_e (sl_e (se_e (k2 q hq) (by decide))) (by decide)) (by decide)) (by decide)) (((((k3.se (by simp [moBC]) (by decide)).seL (by simp [moBC])).fld (by decide)).se (by simp [moBC]) (by decide)).fld (by decide))
      · show tbIs _ _ ([] ++ [kf c 0])
        rw [hk00]
        exact tbIs.put (hempty d1 k1) hend0 List.not_mem_nil (by decide) (by decide) (se_e (se_e (se_e (sl_e (se_s _ _ _ _)) (by decide)) (by decide)) (by decide)) (fun q hq => se_e (se_e (se_e (sl_e (se_n _ _ hq)) (by decide)) (by decide)) (by decide)) (se_e (se_s _ _ _ _) (by decide)) (fun q hq => se_e ((se_n _ _ hq).trans (se_e (sl_e (se_e rfl (by decide))) (by decide))) (by decide))
      · have hj2 := (List.getElem?_eq_some_iff.mp hj).1
        have e9 : j = 0 := by simp at hj2; omega
        subst e9
        cases hj
        rw [hst.self rfl 0, ways_0 (by unfold sum6; simp [dig_0])]
        show (seL d1 252 0 (lN 1)).2 252 0 = _
        exact seL_s' _ _ _ _
    )
  refine m_aload_n dX12_findBeginnings_0 rfl ?_
  refine m_iload_n dX12_findBeginnings_1 rfl ?_
  refine m_aload_n dX12_findBeginnings_2 rfl ?_
  refine m_get fl_X12_29 (by decide) rfl rfl dX12_findBeginnings_3 ?_
  refine m_callVV (s_X12_take (o := 246) hI (by decide) hn hs) cv_X12_186 dX12_findBeginnings_6 (fun d6 h6 => ?_)
  rw [hxs] at h6
  refine m_iconstN 0 dX12_findBeginnings_9 (by decide) ?_
  refine m_istore_n dX12_findBeginnings_10 (Nat.le_of_ble_eq_true rfl) rfl ?_
  exact start 0 (Nat.zero_le _) d6 (fun q hq => absurd hq (Nat.not_lt_zero q)) h6.1 (chK.of (h6.2.mono (by simp [moBC])) (by simp [moBC]))
theorem s_X12_beginsO (hx : hN x = none) : mSpecI l W mX12_begins (dep + 2) [.ref (xad W 240), .int x, .int y] d (fun r d' => r = -2 ∧ d' = d) := by
  refine m_spec RX12 [some (.ref (xad W 240)), some (.int x), some (.int y)] rfl (by decide +kernel) rfl rfl (fun K hR => ?_)
  refine m_iload_n dX12_begins_0 rfl ?_
  refine m_callSIp (s_X12_isHeapO hx) cs_X12_172 dX12_begins_1 ?_
  refine m_if_ne 10 dX12_begins_4 (by decide) (fun c4 => by exfalso; exact c4 rfl) (fun c4 => ?_)
  refine m_bipush (v := -2) dX12_begins_7 (by decide) ?_
  exact m_iret (ty := .int) hR dX12_begins_9 (⟨rfl, rfl⟩)
theorem s_X12_beginsW (hx : hN x = some n) (hy : y < 0 ∨ nI 2 < y) : mSpecI l W mX12_begins (dep + 2) [.ref (xad W 240), .int x, .int y] d (fun r d' => r = -3 ∧ d' = d) := by
  refine m_spec RX12 [some (.ref (xad W 240)), some (.int x), some (.int y)] rfl (by decide +kernel) rfl rfl (fun K hR => ?_)
  refine m_iload_n dX12_begins_0 rfl ?_
  refine m_callSIp (s_X12_isHeap hx) cs_X12_172 dX12_begins_1 ?_
  refine m_if_ne 10 dX12_begins_4 (by decide) (fun c4 => ?_) (fun c4 => by exfalso; exact c4 (by decide))
  refine m_iload_n dX12_begins_10 rfl ?_
  refine m_iconstN 0 dX12_begins_11 (by decide) ?_
  refine m_iconstN 2 dX12_begins_12 (by decide) ?_
  refine m_callSIp (s_X12_inN (x := y) (a := nI 0) (b := nI 2) hy) cs_X12_83 dX12_begins_13 ?_
  refine m_if_ne 22 dX12_begins_16 (by decide) (fun c16 => by exfalso; exact c16 rfl) (fun c16 => ?_)
  refine m_bipush (v := -3) dX12_begins_19 (by decide) ?_
  exact m_iret (ty := .int) hR dX12_begins_21 (⟨rfl, rfl⟩)
theorem s_X12_begins {m : Nat} (hm : m ≤ 2) (hx : hN x = some n) (hs : moSt d σ) : mSpecI l W mX12_begins (dep + 3) [.ref (xad W 240), .int x, .int (nI m)] d (fun r d' => r = (if m = 0 then nI (cntF (bw σ.1 σ.2.1) (σ.2.2 n) (cntV (σ.2.2 n)) (strd (cntV (σ.2.2 n)) 6)) else if m = 1 then nI (ways (bw σ.1 σ.2.1) (σ.2.2 n) (dig (cntV (σ.2.2 n)) (strd (cntV (σ.2.2 n)) 6 - 1)) % 1000000007) else nI (maxF (bw σ.1 σ.2.1) (σ.2.2 n) (cntV (σ.2.2 n)) (strd (cntV (σ.2.2 n)) 6))) ∧ chK moBC d d') := by
  obtain ⟨hn, rfl⟩ := hN_some hx
  obtain ⟨hA, hAl, hAg, hAx⟩ := hs.2 n hn
  have hk := hs.1.2.2.2.1
  have hcsum : sum6 (cntV (σ.2.2 n)) ≤ 24 := by rw [cnt_sum (fun x h => by have := hAx x h; omega)]; exact hAl
  have hst6 := strd_le (c := cntV (σ.2.2 n)) hcsum (Nat.le_refl 6)
  have hcf := cntF_le (bw σ.1 σ.2.1) (σ.2.2 n) (cntV (σ.2.2 n)) (strd (cntV (σ.2.2 n)) 6)
  have hL2 : isL W 252 20001 := ⟨by decide, by decide, fun _ => rfl⟩
  refine m_spec RX12 [some (.ref (xad W 240)), some (.int (nI n)), some (.int (nI m))] rfl (by decide +kernel) rfl rfl (fun K hR => ?_)
  refine m_iload_n dX12_begins_0 rfl ?_
  refine m_callSIp (s_X12_isHeap hx) cs_X12_172 dX12_begins_1 ?_
  refine m_if_ne 10 dX12_begins_4 (by decide) (fun c4 => ?_) (fun c4 => by exfalso; exact c4 (by decide))
  refine m_iload_n dX12_begins_10 rfl ?_
  refine m_iconstN 0 dX12_begins_11 (by decide) ?_
  refine m_iconstN 2 dX12_begins_12 (by decide) ?_
  refine m_callSIp (s_X12_inY (x := nI m) (a := nI 0) (b := nI 2) ((nI_leI (by omega) (by omega)).mpr (by omega)) ((nI_leI (by omega) (by omega)).mpr (by omega))) cs_X12_83 dX12_begins_13 ?_
  refine m_if_ne 22 dX12_begins_16 (by decide) (fun c16 => ?_) (fun c16 => by exfalso; exact c16 (by decide))
  refine m_aload_n dX12_begins_22 rfl ?_
  refine m_iload_n dX12_begins_23 rfl ?_
  refine m_callVV (s_X12_findBeginnings hn hs) cv_X12_220 dX12_begins_24 (fun d24 h24 => ?_)
  refine m_aload_n dX12_begins_27 rfl ?_
  refine m_get fl_X12_203 (by decide) rfl rfl dX12_begins_28 ?_
  refine m_eqi (h24.1) ?_
  refine m_sipushN 20000 dX12_begins_31 (by decide) ?_
  first | refine m_icmp_leN 40 dX12_begins_34 (by decide) (by omega) (by omega) (fun c34 => ?_) (fun c34 => by exfalso; omega) | refine m_icmp_le 40 dX12_begins_34 (by decide) (fun c34 => ?_) (fun c34 => by exfalso; omega)
  refine m_iload_n dX12_begins_40 rfl ?_
  first | refine m_if_neN 51 dX12_begins_41 (by decide) (by omega) (fun c41 => ?_) (fun c41 => ?_) | refine m_if_ne 51 dX12_begins_41 (by decide) (fun c41 => ?_) (fun c41 => ?_)
  · refine m_iload_n dX12_begins_51 rfl ?_
    refine m_iconstN 1 dX12_begins_52 (by decide) ?_
    first | refine m_icmp_neN 71 dX12_begins_53 (by decide) (by omega) (by omega) (fun c53 => ?_) (fun c53 => ?_) | refine m_icmp_ne 71 dX12_begins_53 (by decide) (fun c53 => ?_) (fun c53 => ?_)
    · refine m_aload_n dX12_begins_71 rfl ?_
      refine m_get fl_X12_209 (by decide) rfl rfl dX12_begins_72 ?_
      refine m_eqi (h24.2.2.2.1) ?_
      exact m_iret (ty := .int) hR dX12_begins_75 (⟨by rw [if_neg (by omega), if_neg (by omega)], h24.2.2.2.2⟩)
    · refine m_aload_n dX12_begins_56 rfl ?_
      refine m_get fl_X12_48 (by decide) rfl rfl dX12_begins_57 ?_
      refine m_aload_n dX12_begins_60 rfl ?_
      refine m_get fl_X12_203 (by decide) rfl rfl dX12_begins_61 ?_
      refine m_eqi (h24.1) ?_
      refine m_iconstN 1 dX12_begins_64 (by decide) ?_
      first | refine m_isubN dX12_begins_65 (by omega) ?_ | refine m_isub dX12_begins_65 ?_
      refine m_lald hL2 (by omega) dX12_begins_66 ?_
      refine m_eql (h24.2.2.1) ?_
      first | refine m_l2iN dX12_begins_67 ?_ | refine m_l2i dX12_begins_67 ?_
      refine m_goto 75 dX12_begins_68 (by decide) ?_
      exact m_iret (ty := .int) hR dX12_begins_75 (⟨by rw [if_neg (by omega), if_pos (by omega)], h24.2.2.2.2⟩)
  · refine m_aload_n dX12_begins_44 rfl ?_
    refine m_get fl_X12_203 (by decide) rfl rfl dX12_begins_45 ?_
    refine m_eqi (h24.1) ?_
    refine m_goto 75 dX12_begins_48 (by decide) ?_
    exact m_iret (ty := .int) hR dX12_begins_75 (⟨by rw [if_pos (by omega)], h24.2.2.2.2⟩)
end MOD
