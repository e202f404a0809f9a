/-! The mathematics of the law's checks: one hull for one set; a hull and itself; two hulls the other way about -/
theorem mm_fil : ∀ (D : Pt → Prop) W, hul D W → cvx W → 3 ≤ W.length → filP W := fun D W h hc hn => m_fil hc (fun k h0 hk => by
  have := m_first h hc k h0 hk
  omega) hn
section MSUM
variable {D : Pt → Prop} {P Q W W' : PL}
theorem hul_one (hQ : ∀ q, pq Q Q.length q ↔ D q) (hb : ∀ q, D q → bp q) (h : hul D W) (h' : hul D W') (hl : W.length ≤ 200) (hl' : W'.length ≤ 200) : W.length = W'.length ∧ ∀ i, i < W.length → pt W i = pt W' i := by
  have ok : okS Q := okS_pq fun q hq => hb q ((hQ q).mp hq)
  have g := gw_hul (hul_D h hQ) ok hl
  have g' := gw_hul (hul_D h' hQ) ok hl'
  have e := gwc_one g.1 g'.1
  refine ⟨e, fun i hi => ?_⟩
  have c1 := g.2
  have c2 := g'.2
  rw [← e] at c2
  have a1 := c1.2 i (by rw [c1.1]; exact hi)
  have a2 := c2.2 i (by rw [c1.1]; exact hi)
  exact pt_eq (a1.1.symm.trans a2.1) (a1.2.symm.trans a2.2)
def mz (L : PL) : Prop := ∀ e, e ∈ L → e.2.2 = 0
theorem mz_capp {N : Nat} {L : PL} {x y : Int} (h : mz L) : mz (capp N L (x, y, 0)) := fun e he => by
  unfold capp at he
  split at he
  · rcases List.mem_append.mp he with w | w
    · exact h e w
    · rw [List.mem_singleton.mp w]
  · exact h e he
theorem mz_addF {N : Nat} {A B : PL} : ∀ (f : Nat) (x y : Int) (i j : Nat) (T : PL), mz T → mz (addF N A B f x y i j T)
  | 0, x, y, i, j, T, h => h
  | f + 1, x, y, i, j, T, h => by
    unfold addF
    split
    · exact mz_addF f _ _ _ _ _ (mz_capp h)
    · exact h
theorem mz_add {N : Nat} {A B : PL} : mz (addN N A B) := fun e he => by
  have h : mz (addF N A B (egs A + egs B) (pX A 0 + pX B 0) (pY A 0 + pY B 0) 0 0 (capp N [] (pX A 0 + pX B 0, pY A 0 + pY B 0, 0))) := mz_addF _ _ _ _ _ _ (mz_capp fun _ w => absurd w List.not_mem_nil)
  unfold addN shut at he
  split at he
  · exact h e (List.dropLast_subset _ he)
  · exact h e he
theorem l_ext {A B : PL} (hl : A.length = B.length) (h : ∀ i, i < A.length → pt A i = pt B i) (a : mz A) (b : mz B) : A = B := by
  refine List.ext_getElem hl fun i h1 h2 => ?_
  have e1 : A.getD i d3 = A[i] := by rw [List.getD_eq_getElem?_getD, List.getElem?_eq_getElem h1]; rfl
  have e2 : B.getD i d3 = B[i] := by rw [List.getD_eq_getElem?_getD, List.getElem?_eq_getElem h2]; rfl
  have p := h i h1
  have p1 : (A.getD i d3).1 = (B.getD i d3).1 := (pt_inv p).1
  have p2 : (A.getD i d3).2.1 = (B.getD i d3).2.1 := (pt_inv p).2
  rw [e1, e2] at p1 p2
  exact Prod.ext p1 (Prod.ext p2 ((a _ (List.getElem_mem h1)).trans (b _ (List.getElem_mem h2)).symm))
abbrev smD (P : PL) (a b1 : Int) (q : Pt) : Prop := ∃ p r, hp P a p ∧ hp P b1 r ∧ q = ad p r
theorem smD_b (hP : g3P P) {a b1 : Int} {q : Pt} (h : smD P a b1 q) : bp q := by
  obtain ⟨p, r, h1, h2, rfl⟩ := h
  have b1 := hp_b2 hP.2 h1
  have b2 := hp_b2 hP.2 h2
  exact ⟨⟨by show -400 ≤ p.1 + r.1; omega, by show p.1 + r.1 ≤ 400; omega⟩, ⟨by show -400 ≤ p.2 + r.2; omega, by show p.2 + r.2 ≤ 400; omega⟩⟩
theorem m_swap (hP : g3P P) {a b1 : Int} (hc : fl2 P a b1) : smL P b1 a = smL P a b1 := by
  obtain ⟨h1, -, h3⟩ := sm_hul hP hc
  obtain ⟨g1, -, g3⟩ := sm_hul hP (a := b1) (b1 := a) ⟨hc.2, hc.1⟩
  have g1' : hul (smD P a b1) (smL P b1 a) := hul_D g1 fun q => ⟨fun ⟨p, r, x, y, e⟩ => ⟨r, p, y, x, e.trans (ad_comm _ _)⟩, fun ⟨p, r, x, y, e⟩ => ⟨r, p, y, x, e.trans (ad_comm _ _)⟩⟩
  have k := hul_one (Q := smO P a b1 P.length) (fun q => pq_smO) (fun q => smD_b hP) g1' h1 (by omega) (by omega)
  exact l_ext k.1 k.2 mz_add mz_add
/-- each corner doubled -/
def dbl (W : PL) : PL := W.map fun e => (2 * e.1, 2 * e.2.1, e.2.2)
theorem dbl_len (W : PL) : (dbl W).length = W.length := List.length_map _
theorem dbl_pt {i : Nat} : pt (dbl W) i = ad (pt W i) (pt W i) := by
  have e : (dbl W).getD i d3 = (2 * (W.getD i d3).1, 2 * (W.getD i d3).2.1, (W.getD i d3).2.2) := by
    unfold dbl
    rw [List.getD_eq_getElem?_getD, List.getElem?_map, List.getD_eq_getElem?_getD]
    cases W[i]? with
    | none => rfl
    | some v => rfl
  refine pt_eq ?_ ?_
  · show ((dbl W).getD i d3).1 = pX W i + pX W i
    rw [e]
    show 2 * pX W i = _
    omega
  · show ((dbl W).getD i d3).2.1 = pY W i + pY W i
    rw [e]
    show 2 * pY W i = _
    omega
theorem T3_dbl (a c p r : Pt) : T3 (ad a a) (ad c c) (ad p r) = 2 * (T3 a c p + T3 a c r) := by
  simp only [T3, tw, ad]
  grind
theorem On_dbl {a c p r : Pt} (h1 : On a c p) (h2 : On a c r) : On (ad a a) (ad c c) (ad p r) := by
  obtain ⟨x1, x2, y1, y2, t⟩ := h1
  obtain ⟨u1, u2, v1, v2, s⟩ := h2
  refine ⟨?_, ?_, ?_, ?_, ?_⟩
  · show min (a.1 + a.1) (c.1 + c.1) ≤ p.1 + r.1
    omega
  · show p.1 + r.1 ≤ max (a.1 + a.1) (c.1 + c.1)
    omega
  · show min (a.2 + a.2) (c.2 + c.2) ≤ p.2 + r.2
    omega
  · show p.2 + r.2 ≤ max (a.2 + a.2) (c.2 + c.2)
    omega
  · have e := T3_dbl a c p r
    have t' : T3 a c p = 0 := t
    have s' : T3 a c r = 0 := s
    rw [t', s'] at e
    exact e
theorem dbl_hul {a : Int} (h : hul (hp P a) W) : hul (smD P a a) (dbl W) := by
  refine ⟨by rw [dbl_len]; exact h.1, fun i hi => ?_, fun q hq => ?_, fun i j hij hj e => ?_, fun i hi q hq => ?_⟩
  · rw [dbl_len] at hi
    rw [dbl_pt]
    exact ⟨_, _, h.2.1 i hi, h.2.1 i hi, rfl⟩
  · obtain ⟨p, r, h1, h2, rfl⟩ := hq
    rw [dbl_pt, lv_ad, lv_ad]
    have := h.2.2.1 p h1
    have := h.2.2.1 r h2
    omega
  · rw [dbl_len] at hj
    rw [dbl_pt, dbl_pt] at e
    have e1 : pX W i + pX W i = pX W j + pX W j := congrArg Prod.fst e
    have e2 : pY W i + pY W i = pY W j + pY W j := congrArg Prod.snd e
    exact h.2.2.2.1 i j hij hj (pt_eq (by show pX W i = pX W j; omega) (by show pY W i = pY W j; omega))
  · obtain ⟨p, r, h1, h2, rfl⟩ := hq
    rw [dbl_len] at hi ⊢
    rw [dbl_pt, dbl_pt, T3_dbl]
    rcases h.2.2.2.2 i hi p h1 with w1 | w1
    · have w2 := nn_or (h.2.2.2.2 i hi r h2)
      left
      omega
    · rcases h.2.2.2.2 i hi r h2 with w2 | w2
      · have w3 : T3 (pt W i) (pt W (nxt W.length i)) p = 0 := On_T w1
        left
        omega
      · exact Or.inr (On_dbl w1 w2)
theorem da_pt {A B : PL} (hl : A.length = B.length) (h : ∀ i, i < A.length → pt A i = pt B i) : da A = da B := by
  show sumN (daT A) A.length = sumN (daT B) B.length
  rw [← hl]
  refine sumN_cg _ fun i hi => ?_
  have e1 := h i hi
  have e2 := h _ (nxt_lt hi)
  have a1 : pX A i = pX B i := (pt_inv e1).1
  have a2 : pY A i = pY B i := (pt_inv e1).2
  have a3 : pX A (nxt A.length i) = pX B (nxt A.length i) := (pt_inv e2).1
  have a4 : pY A (nxt A.length i) = pY B (nxt A.length i) := (pt_inv e2).2
  show pX A i * pY A (nxt A.length i) - pY A i * pX A (nxt A.length i) = pX B i * pY B (nxt B.length i) - pY B i * pX B (nxt B.length i)
  rw [← hl, a1, a2, a3, a4]
theorem da_dbl : da (dbl W) = 4 * da W := by
  show sumN (daT (dbl W)) (dbl W).length = 4 * sumN (daT W) W.length
  rw [dbl_len, ← sumN_mul]
  refine sumN_cg _ fun i hi => ?_
  have e1 : pt (dbl W) i = _ := dbl_pt
  have e2 : pt (dbl W) (nxt W.length i) = _ := dbl_pt
  have a1 : pX (dbl W) i = pX W i + pX W i := congrArg Prod.fst e1
  have a2 : pY (dbl W) i = pY W i + pY W i := congrArg Prod.snd e1
  have a3 : pX (dbl W) (nxt W.length i) = pX W (nxt W.length i) + pX W (nxt W.length i) := congrArg Prod.fst e2
  have a4 : pY (dbl W) (nxt W.length i) = pY W (nxt W.length i) + pY W (nxt W.length i) := congrArg Prod.snd e2
  show pX (dbl W) i * pY (dbl W) (nxt (dbl W).length i) - pY (dbl W) i * pX (dbl W) (nxt (dbl W).length i) = 4 * (pX W i * pY W (nxt W.length i) - pY W i * pX W (nxt W.length i))
  rw [dbl_len, a1, a2, a3, a4]
  grind
theorem m_hfD (hP : g3P P) {a : Int} (hc : cntN P a P.length ≠ 0) : hfD P a := by
  obtain ⟨h1, -, h3⟩ := sm_hul hP (a := a) (b1 := a) ⟨hc, hc⟩
  obtain ⟨g1, -, g3⟩ := put_hul hP hc
  have k := hul_one (Q := smO P a a P.length) (fun q => pq_smO) (fun q => smD_b hP) h1 (dbl_hul g1) (by omega) (by rw [dbl_len]; omega)
  refine ⟨k.1.trans (dbl_len _), ?_⟩
  rw [da_pt k.1 k.2, da_dbl]
end MSUM
