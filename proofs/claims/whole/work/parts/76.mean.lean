/-! Promise 47's mathematics: the sum of the ways -/
def sm (g : Int × Int × Int → Int) : PL → Int
  | [] => 0
  | e :: L => g e + sm g L
theorem sm_app {g : Int × Int × Int → Int} {M : PL} : ∀ L : PL, sm g (L ++ M) = sm g L + sm g M
  | [] => (Int.zero_add _).symm
  | e :: L => by
    have ih := sm_app (g := g) (M := M) L
    rw [List.cons_append]
    show g e + sm g (L ++ M) = g e + sm g L + sm g M
    rw [ih]
    omega
theorem sm_ins {g : Int × Int × Int → Int} {L : PL} {e : Int × Int × Int} : sm g (insE L e) = sm g L + g e := by
  have h : sm g L = sm g (L.take (ipos L e.1 e.2.1 L.length)) + sm g (L.drop (ipos L e.1 e.2.1 L.length)) := by
    rw [← sm_app, List.take_append_drop]
  unfold insE insAt
  rw [sm_app, h]
  show _ + (g e + sm g _) = _
  omega
abbrev gw (P : PL) (f : Nat) (e : Int × Int × Int) : Int := ((e.1 - pX P f).natAbs : Int) + ((e.2.1 - pY P f).natAbs : Int)
theorem sm_putN {P : PL} {a : Int} {f : Nat} : ∀ n, sm (gw P f) (putN P a [] n) = mrN P a f n
  | 0 => rfl
  | n + 1 => by
    have ih := sm_putN (P := P) (a := a) (f := f) n
    unfold putN mrN
    by_cases c : pM P n = a
    · rw [if_pos c, if_pos c, sm_ins, ih]
    · rw [if_neg c, if_neg c, ih]
theorem mfN_sm {P L : PL} {f : Nat} (hx : pX L 0 = pX P f) (hy : pY L 0 = pY P f) : ∀ n, n ≤ L.length → mfN L n = sm (gw P f) (L.take n)
  | 0, _ => rfl
  | n + 1, hn => by
    have ih := mfN_sm hx hy n (by omega)
    rw [List.take_succ, List.getElem?_eq_getElem (by omega), sm_app]
    have e2 : L.getD n d3 = L[n] := by rw [List.getD_eq_getElem?_getD, List.getElem?_eq_getElem (by omega)]; rfl
    unfold mfN
    rw [ih, hx, hy]
    show _ = sm (gw P f) (L.take n) + (gw P f L[n] + 0)
    rw [← e2]
    show _ = sm (gw P f) (L.take n) + ((((pX L n - pX P f).natAbs : Int) + ((pY L n - pY P f).natAbs : Int)) + 0)
    omega
theorem q_mean (P : PL) (a : Int) (h : cntN P a P.length ≠ 0) : ∃ f : Nat, ptS P a 0 P.length 0 = (f : Int) ∧ f < P.length ∧ mrN P a f P.length = mfN (putN P a [] P.length) (putN P a [] P.length).length := by
  have hq := q_sorted P a 0 (by omega)
  have hl : (putN P a [] P.length).length = cntN P a P.length := by rw [putN_len]; exact Nat.zero_add _
  have hm := fun f => mem_putN (P := P) (a := a) (R := []) (f := f) P.length
  have hs := fun f => sm_putN (P := P) (a := a) (f := f) P.length
  generalize putN P a [] P.length = O at hq hl hm hs ⊢
  obtain ⟨k, k1, k2, k3⟩ := ((hm _).mp (getD_mem (show 0 < O.length by omega))).resolve_left List.not_mem_nil
  refine ⟨k, ?_, k1, ?_⟩
  · refine hq.trans ?_
    unfold pM
    rw [k3]
  · rw [← hs k, mfN_sm (P := P) (f := k) (congrArg (fun t => t.1) k3) (congrArg (fun t => t.2.1) k3) O.length (Nat.le_refl _), List.take_length]
