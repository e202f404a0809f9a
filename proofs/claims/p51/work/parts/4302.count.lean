/-! Counting points: promises 6 and 7 -/
/-- how many entries of a list have a property -/
noncomputable def ct (T : Int × Int × Int → Prop) : PL → Nat
  | [] => 0
  | e :: L => cif (T e) (ct T L + 1) (ct T L)
theorem ct_cons_t {T : Int × Int × Int → Prop} {e : Int × Int × Int} {L : PL} (h : T e) : ct T (e :: L) = ct T L + 1 := by
  rw [ct]
  rw [cif_t h]
theorem ct_cons_f {T : Int × Int × Int → Prop} {e : Int × Int × Int} {L : PL} (h : ¬ T e) : ct T (e :: L) = ct T L := by
  rw [ct]
  rw [cif_f h]
theorem ct_app {T : Int × Int × Int → Prop} {M : PL} : ∀ L : PL, ct T (L ++ M) = ct T L + ct T M
  | [] => (Nat.zero_add _).symm
  | e :: L => by
    have ih := ct_app (T := T) (M := M) L
    by_cases c : T e
    · rw [List.cons_append, ct_cons_t c, ct_cons_t c, ih]; omega
    · rw [List.cons_append, ct_cons_f c, ct_cons_f c, ih]
theorem ct_ins {T : Int × Int × Int → Prop} {L : PL} {e : Int × Int × Int} : ct T (insE L e) = cif (T e) (ct T L + 1) (ct T L) := by
  have h : ct T L = ct T (L.take (ipos L e.1 e.2.1 L.length)) + ct T (L.drop (ipos L e.1 e.2.1 L.length)) := by
    rw [← ct_app, List.take_append_drop]
  unfold insE insAt
  rw [ct_app]
  by_cases c : T e
  · rw [ct_cons_t c, cif_t c, h]; omega
  · rw [ct_cons_f c, cif_f c, h]
abbrev entP (P : PL) (i : Nat) : Int × Int × Int := (pX P i, pY P i, (i : Int))
noncomputable def ctP (P : PL) (a : Int) (T : Int × Int × Int → Prop) : Nat → Nat
  | 0 => 0
  | n + 1 => cif (pM P n = a ∧ T (entP P n)) (ctP P a T n + 1) (ctP P a T n)
theorem ct_putN {P : PL} {a : Int} {T : Int × Int × Int → Prop} : ∀ n, ct T (putN P a [] n) = ctP P a T n
  | 0 => rfl
  | n + 1 => by
    have ih := ct_putN (P := P) (a := a) (T := T) n
    unfold putN ctP
    by_cases c : pM P n = a
    · rw [if_pos c, ct_ins, ih]
      by_cases d : T (entP P n)
      · rw [cif_t d, cif_t ⟨c, d⟩]
      · rw [cif_f d, cif_f (fun w => d w.2)]
    · rw [if_neg c, cif_f (fun w => c w.1), ih]
/-- the count over a list by its places -/
theorem ct_at {T : Int × Int × Int → Prop} : ∀ (L : PL) (q : Nat), (∀ i, i < q → i < L.length → T (L.getD i d3)) → (∀ i, q ≤ i → i < L.length → ¬ T (L.getD i d3)) → q ≤ L.length → ct T L = q
  | [], q, _, _, h => (Nat.le_zero.mp h).symm
  | e :: L, 0, _, h2, _ => by
    rw [ct_cons_f (show ¬ T e from h2 0 (Nat.le_refl _) (Nat.succ_pos _))]
    exact ct_at L 0 (fun i h => absurd h (Nat.not_lt_zero _)) (fun i _ h => h2 (i + 1) (Nat.zero_le _) (Nat.succ_lt_succ h)) (Nat.zero_le _)
  | e :: L, q + 1, h1, h2, h3 => by
    rw [ct_cons_t (show T e from h1 0 (Nat.succ_pos _) (Nat.succ_pos _))]
    rw [ct_at L q (fun i h h' => h1 (i + 1) (Nat.succ_lt_succ h) (Nat.succ_lt_succ h')) (fun i h h' => h2 (i + 1) (Nat.succ_le_succ h) (Nat.succ_lt_succ h')) (Nat.le_of_succ_le_succ h3)]
theorem lxl_irr {e f : Int × Int × Int} (h : lxl e f) (h2 : lxl f e) : False := by
  unfold lxl at h h2
  omega
theorem ct_srtd {L : PL} (h : srtd L) {q : Nat} (hq : q < L.length) : ct (fun f => lxl f (L.getD q d3)) L = q :=
  ct_at L q (fun i h1 h2 => h i q h1 hq) (fun i h1 h2 w => by
    by_cases e : i = q
    · subst e; exact lxl_irr w w
    · exact lxl_irr w (h q i (by omega) h2)) (Nat.le_of_lt hq)
theorem ahN_ct (P : PL) (a : Int) (p : Nat) : ∀ n, ahN P a p n = ctP P a (fun f => lxl f (entP P p)) n
  | 0 => rfl
  | n + 1 => by
    have ih := ahN_ct P a p n
    have e : ahd P n p ↔ lxl (entP P n) (entP P p) := by
      unfold ahd lxl
      show _ ↔ (pX P n < pX P p ∨ (pX P n = pX P p ∧ (pY P n < pY P p ∨ (pY P n = pY P p ∧ (n : Int) < (p : Int)))))
      omega
    unfold ahN ctP
    by_cases c : pM P n = a ∧ ahd P n p
    · rw [cif_t c, cif_t ⟨c.1, e.mp c.2⟩, ih]
    · rw [cif_f c, cif_f (fun w => c ⟨w.1, e.mpr w.2⟩), ih]
theorem ptS_eq {P : PL} {a pl : Int} {i : Nat} (hi : pM P i = a ∧ (ahN P a i P.length : Int) = pl) : ∀ f p, p ≤ i → i < p + f → (∀ k, p ≤ k → k < i → ¬ (pM P k = a ∧ (ahN P a k P.length : Int) = pl)) → ptS P a pl f p = (i : Int)
  | 0, p, h1, h2, _ => absurd h2 (by omega)
  | f + 1, p, h1, h2, h3 => by
    unfold ptS
    by_cases c : p = i
    · subst c
      rw [if_pos hi]
    · rw [if_neg (h3 p (Nat.le_refl _) (by omega))]
      exact ptS_eq hi f (p + 1) (by omega) (by omega) (fun k a b => h3 k (by omega) b)
/-- promise 6: the place in order -/
theorem q_sorted (P : PL) (a : Int) (q : Nat) (hq : q < cntN P a P.length) : ptS P a q P.length 0 = pM (putN P a [] P.length) q := by
  have hs := srtd_putN (P := P) (a := a) P.length
  have hl : (putN P a [] P.length).length = cntN P a P.length := by rw [putN_len]; exact Nat.zero_add _
  have hm := fun f => mem_putN (P := P) (a := a) (R := []) (f := f) P.length
  have hc := fun T => ct_putN (P := P) (a := a) (T := T) P.length
  generalize putN P a [] P.length = O at hs hl hm hc ⊢
  have hq2 : q < O.length := by omega
  obtain ⟨i, h1, h2, h3⟩ := ((hm _).mp (getD_mem hq2)).resolve_left List.not_mem_nil
  have key : ∀ k, k < P.length → pM P k = a → (ahN P a k P.length : Int) = (q : Int) → k = i := fun k k1 k2 k3 => by
    have k4 : entP P k ∈ O := (hm _).mpr (Or.inr ⟨k, k1, k2, rfl⟩)
    obtain ⟨j, j1, j2⟩ := List.getElem_of_mem k4
    have j3 : O.getD j d3 = entP P k := by rw [List.getD_eq_getElem?_getD, List.getElem?_eq_getElem j1]; exact j2
    have j4 := ct_srtd hs j1
    rw [j3, hc, ← ahN_ct] at j4
    have e : j = q := by omega
    subst e
    rw [h3] at j3
    have := congrArg (fun t => t.2.2) j3
    have : (i : Int) = (k : Int) := this
    omega
  have ha : (ahN P a i P.length : Int) = (q : Int) := by
    have j4 := ct_srtd hs hq2
    rw [h3, hc, ← ahN_ct] at j4
    rw [j4]
  rw [ptS_eq ⟨h2, ha⟩ P.length 0 (Nat.zero_le _) (by omega) (fun k _ b w => absurd (key k (by omega) w.1 w.2) (by omega))]
  unfold pM
  rw [h3]

