/-! Promise 7's mathematics: places -/
def fstP (P : PL) (a : Int) (e : Int × Int × Int) : Prop := ∀ o : Nat, (o : Int) < e.2.2 → ¬ (pM P o = a ∧ pX P o = e.1 ∧ pY P o = e.2.1)
theorem plM_ct (P : PL) (a : Int) : ∀ n, plM P a n = ctP P a (fstP P a) n
  | 0 => rfl
  | n + 1 => by
    have ih := plM_ct P a n
    have e : frP P a n n ↔ (pM P n = a ∧ fstP P a (entP P n)) := by
      unfold frP fstP
      constructor
      · rintro ⟨h1, h2⟩
        exact ⟨h1, fun o ho => h2 o (by have h9 : (o : Int) < (n : Int) := ho; omega)⟩
      · rintro ⟨h1, h2⟩
        exact ⟨h1, fun o ho => h2 o (show (o : Int) < (n : Int) by omega)⟩
    unfold plM ctP
    by_cases c : frP P a n n
    · rw [cif_t c, cif_t (e.mp c), ih]
    · rw [cif_f c, cif_f (fun w => c (e.mpr w)), ih]
theorem plN_ct {L : PL} {T : Int × Int × Int → Prop} (h : ∀ i, i < L.length → (newAt L i ↔ T (L.getD i d3))) : ∀ n, n ≤ L.length → plN L n = ct T (L.take n)
  | 0, _ => rfl
  | n + 1, hn => by
    have ih := plN_ct h n (by omega)
    have e := h n (by omega)
    rw [List.take_succ, List.getElem?_eq_getElem (by omega), ct_app]
    have e2 : L.getD n d3 = L[n] := by rw [List.getD_eq_getElem?_getD, List.getElem?_eq_getElem (by omega)]; rfl
    rw [e2] at e
    unfold plN
    show _ = ct T (L.take n) + ct T [L[n]]
    by_cases c : newAt L n
    · rw [if_pos c, ih, ct_cons_t (e.mp c)]
      rfl
    · rw [if_neg c, ih, ct_cons_f (fun w => c (e.mpr w))]
      rfl
theorem q_places (P : PL) (a : Int) : plM P a P.length = plN (putN P a [] P.length) (putN P a [] P.length).length := by
  have hs := srtd_putN (P := P) (a := a) P.length
  have hm := fun f => mem_putN (P := P) (a := a) (R := []) (f := f) P.length
  have hc := ct_putN (P := P) (a := a) (T := fstP P a) P.length
  rw [plM_ct, ← hc]
  generalize putN P a [] P.length = O at hs hm hc ⊢
  have ent : ∀ i, i < O.length → ∃ k : Nat, k < P.length ∧ pM P k = a ∧ O.getD i d3 = entP P k := fun i hi => ((hm _).mp (getD_mem hi)).resolve_left List.not_mem_nil
  rw [plN_ct (T := fstP P a) ?_ O.length (Nat.le_refl _), List.take_length]
  intro i hi
  obtain ⟨k, k1, k2, k3⟩ := ent i hi
  rw [k3]
  have x3 : pX O i = pX P k := congrArg (fun t => t.1) k3
  have y3 : pY O i = pY P k := congrArg (fun t => t.2.1) k3
  unfold newAt fstP
  constructor
  · intro hn o ho w
    have ho9 : (o : Int) < (k : Int) := ho
    obtain ⟨w1, w2, w3⟩ := w
    have w2 : pX P o = pX P k := w2
    have w3 : pY P o = pY P k := w3
    obtain ⟨j, j1, j2⟩ := List.getElem_of_mem ((hm (entP P o)).mpr (Or.inr ⟨o, by omega, w1, rfl⟩))
    have j3 : O.getD j d3 = entP P o := by rw [List.getD_eq_getElem?_getD, List.getElem?_eq_getElem j1]; exact j2
    have jl : lxl (O.getD j d3) (O.getD i d3) := by
      rw [j3, k3]
      exact Or.inr ⟨w2, Or.inr ⟨w3, ho9⟩⟩
    have ji : j < i := by
      by_cases c : j < i
      · exact c
      · by_cases d : j = i
        · subst d; exact absurd jl (fun w => lxl_irr w w)
        · exact absurd jl (fun w => lxl_irr w (hs i j (by omega) j1))
    rcases hn with hn | hn
    · omega
    · have a1 := hs (i - 1) i (by omega) hi
      have a2 : pX O j = pX P o := congrArg (fun t => t.1) j3
      have a3 : pY O j = pY P o := congrArg (fun t => t.2.1) j3
      have a4 : lxw (O.getD j d3) (O.getD (i - 1) d3) := by
        by_cases d : j = i - 1
        · rw [← d]; exact Or.inr ⟨rfl, Int.le_refl _⟩
        · exact lxw_of (hs j (i - 1) (by omega) (by omega))
      have a5 : pX O (i - 1) < pX O i ∨ (pX O (i - 1) = pX O i ∧ (pY O (i - 1) < pY O i ∨ (pY O (i - 1) = pY O i ∧ pM O (i - 1) < pM O i))) := a1
      have a6 : pX O j < pX O (i - 1) ∨ (pX O j = pX O (i - 1) ∧ pY O j ≤ pY O (i - 1)) := a4
      refine hn ⟨?_, ?_⟩ <;> omega
  · intro ht
    by_cases c : i = 0
    · exact Or.inl c
    · refine Or.inr (fun w => ?_)
      obtain ⟨w1, w2⟩ := w
      obtain ⟨q, q1, q2, q3⟩ := ent (i - 1) (by omega)
      have x4 : pX O (i - 1) = pX P q := congrArg (fun t => t.1) q3
      have y4 : pY O (i - 1) = pY P q := congrArg (fun t => t.2.1) q3
      have a1 := hs (i - 1) i (by omega) hi
      rw [q3, k3] at a1
      have a5 : pX P q < pX P k ∨ (pX P q = pX P k ∧ (pY P q < pY P k ∨ (pY P q = pY P k ∧ (q : Int) < (k : Int)))) := a1
      exact ht q (show (q : Int) < (k : Int) by omega) ⟨q2, show pX P q = pX P k by omega, show pY P q = pY P k by omega⟩

