/-! The reference: fences -/
/-- numbers of points by their y: where a new one goes -/
def ypN (P : PL) (O : List Nat) (p : Nat) : Nat → Nat
  | 0 => 0
  | n + 1 => if pY P p < pY P (O.getD n 0) then ypN P O p n else n + 1
theorem ypN_le (P : PL) (O : List Nat) (p : Nat) : ∀ n, ypN P O p n ≤ n
  | 0 => Nat.le_refl _
  | n + 1 => by
    unfold ypN
    split
    · exact Nat.le_succ_of_le (ypN_le P O p n)
    · exact Nat.le_refl _
def ynI (O : List Nat) (i p : Nat) : List Nat := O.take i ++ p :: O.drop i
theorem ynI_len {O : List Nat} {i p : Nat} (hi : i ≤ O.length) : (ynI O i p).length = O.length + 1 := by
  unfold ynI
  simp
  omega
theorem ynI_getD {O : List Nat} {i j p : Nat} (hi : i ≤ O.length) : (ynI O i p).getD j 0 = if j < i then O.getD j 0 else if j = i then p else O.getD (j - 1) 0 := by
  unfold ynI
  by_cases c : j < i
  · rw [if_pos c]
    simp only [List.getD]
    rw [List.getElem?_append_left (by simp; omega), List.getElem?_take, if_pos c]
  · rw [if_neg c]
    simp only [List.getD]
    rw [List.getElem?_append_right (by simp; omega)]
    have e1 : (O.take i).length = i := by simp; omega
    rw [e1]
    by_cases c2 : j = i
    · subst c2
      simp
    · rw [if_neg c2]
      obtain ⟨k, hk⟩ : ∃ k, j - i = k + 1 := ⟨j - i - 1, by omega⟩
      rw [hk, List.getElem?_cons_succ, List.getElem?_drop, show i + k = j - 1 by omega]
/-- the points of a heap among the first n, by y -/
def oyN (P : PL) (a : Int) : Nat → List Nat
  | 0 => []
  | n + 1 => if pM P n = a then ynI (oyN P a n) (ypN P (oyN P a n) n (oyN P a n).length) n else oyN P a n
theorem oyN_len (P : PL) (a : Int) : ∀ n, (oyN P a n).length = cntN P a n
  | 0 => rfl
  | n + 1 => by
    have := oyN_len P a n
    unfold oyN cntN
    split
    · rw [ynI_len (ypN_le _ _ _ _)]; omega
    · omega
theorem oyN_lt (P : PL) (a : Int) : ∀ n i, i < (oyN P a n).length → (oyN P a n).getD i 0 < n
  | 0, i, h => absurd h (Nat.not_lt_zero _)
  | n + 1, i, h => by
    unfold oyN at h ⊢
    split at h
    · rename_i c
      rw [if_pos c, ynI_getD (ypN_le _ _ _ _)]
      rw [ynI_len (ypN_le _ _ _ _)] at h
      have hl := ypN_le P (oyN P a n) n (oyN P a n).length
      split
      · have := oyN_lt P a n i (by omega); omega
      · split
        · omega
        · have := oyN_lt P a n (i - 1) (by omega); omega
    · rename_i c
      rw [if_neg c]
      have := oyN_lt P a n i h
      omega
/-- what the array holds -/
def oyR (O : List Nat) (ar : Nat → Nat → Int) : Prop := ∀ i, i < O.length → ar 18 i = ((O.getD i 0 : Nat) : Int)
abbrev htC (P : PL) (lo hi fr : Int) (p : Nat) : Prop := fr ≤ pY P p ∧ lo ≤ pX P p ∧ pX P p ≤ hi
/-- the height by which so many are held, seen from the k-th on, n held so far -/
def htS (P : PL) (O : List Nat) (lo hi fr : Int) (pts : Nat) : Nat → Nat → Nat → Int
  | 0, _, _ => -1
  | f + 1, k, n => if htC P lo hi fr (O.getD k 0) then (if n + 1 = pts then pY P (O.getD k 0) - fr else htS P O lo hi fr pts f (k + 1) (n + 1)) else htS P O lo hi fr pts f (k + 1) n
abbrev htM (P : PL) (O : List Nat) (lo hi fr : Int) (pts : Nat) : Int := htS P O lo hi fr pts O.length 0 0
def hgQ (P : PL) (O : List Nat) (a : Int) (p o : Nat) (pts : Nat) (q : Nat) : Int := if pM P q = a then htM P O (pX P p) (pX P o) (pY P q) pts else -1
abbrev wdF (P : PL) (p o : Nat) : Int := pX P o - pX P p
def feQ (P : PL) (O : List Nat) (a : Int) (p o pts : Nat) (b : Int) : Nat → Int
  | 0 => b
  | q + 1 => if ¬ hgQ P O a p o pts q = -1 ∧ (feQ P O a p o pts b q = -1 ∨ wdF P p o + hgQ P O a p o pts q < feQ P O a p o pts b q) then wdF P p o + hgQ P O a p o pts q else feQ P O a p o pts b q
abbrev feC (P : PL) (a : Int) (p o : Nat) (b : Int) : Prop := pM P p = a ∧ pM P o = a ∧ 0 ≤ wdF P p o ∧ (b = -1 ∨ wdF P p o < b)
def feO (P : PL) (O : List Nat) (a : Int) (p pts : Nat) (b : Int) : Nat → Int
  | 0 => b
  | o + 1 => if feC P a p o (feO P O a p pts b o) then feQ P O a p o pts (feO P O a p pts b o) P.length else feO P O a p pts b o
def feP (P : PL) (O : List Nat) (a : Int) (pts : Nat) : Nat → Int
  | 0 => -1
  | p + 1 => feO P O a p pts (feP P O a pts p) P.length
abbrev bF (v : Int) : Prop := -1 ≤ v ∧ v ≤ 800
theorem htS_bd {P : PL} {O : List Nat} (hP : okP P) (hO : ∀ i, i < O.length → O.getD i 0 < P.length) {lo hi fr : Int} (hf : -200 ≤ fr ∧ fr ≤ 200) {pts : Nat} : ∀ f k n, k + f = O.length → -1 ≤ htS P O lo hi fr pts f k n ∧ htS P O lo hi fr pts f k n ≤ 400
  | 0, _, _, _ => ⟨by show (-1 : Int) ≤ -1; decide, by show (-1 : Int) ≤ 400; decide⟩
  | f + 1, k, n, h => by
    have hb := hP.at (hO k (by omega))
    unfold htS
    split
    · rename_i c
      split
      · have := c.1
        omega
      · exact htS_bd hP hO hf f (k + 1) (n + 1) (by omega)
    · exact htS_bd hP hO hf f (k + 1) n (by omega)
theorem hgQ_bd {P : PL} {O : List Nat} (hP : okP P) (hO : ∀ i, i < O.length → O.getD i 0 < P.length) {a : Int} {p o pts q : Nat} (hq : q < P.length) : -1 ≤ hgQ P O a p o pts q ∧ hgQ P O a p o pts q ≤ 400 := by
  unfold hgQ
  split
  · exact htS_bd hP hO (hP.at hq).2.1 _ 0 0 (Nat.zero_add _)
  · exact ⟨Int.le_refl _, by decide⟩
theorem feQ_bd {P : PL} {O : List Nat} (hP : okP P) (hO : ∀ i, i < O.length → O.getD i 0 < P.length) {a : Int} {p o pts : Nat} (hw : 0 ≤ wdF P p o ∧ wdF P p o ≤ 400) {b : Int} (hb : bF b) : ∀ q, q ≤ P.length → bF (feQ P O a p o pts b q)
  | 0, _ => hb
  | q + 1, h => by
    have h1 := feQ_bd hP hO (a := a) (pts := pts) hw hb q (by omega)
    have h2 := hgQ_bd hP hO (a := a) (p := p) (o := o) (pts := pts) (show q < P.length by omega)
    unfold feQ
    split
    · exact ⟨by omega, by omega⟩
    · exact h1
theorem wdF_bd {P : PL} (hP : okP P) {p o : Nat} (hp : p < P.length) (ho : o < P.length) : -400 ≤ wdF P p o ∧ wdF P p o ≤ 400 := by
  have h1 := hP.at hp
  have h2 := hP.at ho
  show -400 ≤ _ - _ ∧ _ - _ ≤ (400 : Int)
  omega
theorem feO_bd {P : PL} {O : List Nat} (hP : okP P) (hO : ∀ i, i < O.length → O.getD i 0 < P.length) {a : Int} {p pts : Nat} (hp : p < P.length) {b : Int} (hb : bF b) : ∀ o, o ≤ P.length → bF (feO P O a p pts b o)
  | 0, _ => hb
  | o + 1, h => by
    have h1 := feO_bd hP hO (a := a) (pts := pts) hp hb o (by omega)
    unfold feO
    split
    · rename_i c
      exact feQ_bd hP hO ⟨c.2.2.1, (wdF_bd hP hp (by omega)).2⟩ h1 _ (Nat.le_refl _)
    · exact h1
theorem feP_bd {P : PL} {O : List Nat} (hP : okP P) (hO : ∀ i, i < O.length → O.getD i 0 < P.length) {a : Int} {pts : Nat} : ∀ p, p ≤ P.length → bF (feP P O a pts p)
  | 0, _ => (⟨by decide, by decide⟩ : bF (-1))
  | p + 1, h => feO_bd hP hO (by omega) (feP_bd hP hO p (by omega)) _ (Nat.le_refl _)
section MEIGHTEEN
variable {G : g_X} {sc sc0 : Nat → Int} {ar : Nat → Nat → Int} {m : Nat} {h0 h : g_hp} {P E : PL} {S : Nat → PL} {b : Int} {P2 E2 : PL} {S2 : Nat → PL} {F : PL}
/-- the array while a place is made: a hole at i -/
def oyH (O : List Nat) (i : Nat) (ar1 : Nat → Nat → Int) : Prop := (∀ q, q < i → ar1 18 q = ((O.getD q 0 : Nat) : Int)) ∧ ∀ q, i ≤ q → q < O.length → ar1 18 (q + 1) = ((O.getD q 0 : Nat) : Int)
set_option maxRecDepth 20000 in
theorem oy_shift {Z : g_Z} {z : Option Nat} {a : Int} {O : List Nat} {p i9 : Nat} (hP : mdP sc ar P) (hp : p < P.length) (hO : ∀ i, i < O.length → O.getD i 0 < P.length) (hl : O.length < 60) (kk : ∀ ar1 h, mdX G sc ar1 m h0 h → (∀ j, j ≠ 18 → ar1 j = ar j) → oyH O i9 ar1 → Ev (g_B G mX8_ordersByY 0 0 Z) 0 0 z h 78 [(4, .int (iN (i9 : Nat))), (3, .int (iN (p : Nat))), (2, .int (iN (O.length : Nat))), (0, .ref m), (1, .int (iN a))] []) : ∀ (i : Nat) (ar1 : Nat → Nat → Int) (h : g_hp), mdX G sc ar1 m h0 h → (∀ j, j ≠ 18 → ar1 j = ar j) → oyH O i ar1 → i ≤ O.length → ypN P O p i = i9 → Ev (g_B G mX8_ordersByY 0 0 Z) 0 0 z h 28 [(4, .int (iN (i : Nat))), (3, .int (iN (p : Nat))), (2, .int (iN (O.length : Nat))), (0, .ref m), (1, .int (iN a))] [] := by
  obtain ⟨e1, e2, e3, e4⟩ := hP
  intro i
  induction i with
  | zero =>
    intro ar1 h X hA hI hi hy
    have e9 : i9 = 0 := hy.symm
    subst e9
    refine e_iload dX8_ordersByY_28 rfl ?_
    refine e_if_le (tgt := 78) ⟨by decide, by decide⟩ dX8_ordersByY_30 rfl (fun c_30 => ?_) (fun c_30 => absurd (Int.le_refl 0) c_30)
    exact e_loc [(4, .int (iN (0 : Nat))), (3, .int (iN (p : Nat))), (2, .int (iN (O.length : Nat))), (0, .ref m), (1, .int (iN a))] ⟨rfl, rfl, rfl, rfl, rfl, trivial⟩ (kk _ _ X hA hI)
  | succ i ih =>
    intro ar1 h X hA hI hi hy
    have ho := hO i (by omega)
    have b1 := e3.at ho
    have b2 := e3.at hp
    have hv := hI.1 i (by omega)
    have em : ((i + 1 : Nat) : Int) - 1 = (i : Int) := by omega
    have f2 : ar1 2 = ar 2 := hA 2 (by decide)
    have eY : ypN P O p (i + 1) = if pY P p < pY P (O.getD i 0) then ypN P O p i else i + 1 := rfl
    refine e_iload dX8_ordersByY_28 rfl ?_
    refine e_if_le (tgt := 78) ⟨by omega, by omega⟩ dX8_ordersByY_30 rfl (fun c_30 => absurd c_30 (by omega)) (fun c_30 => ?_)
    refine e_aload_n dX8_ordersByY_33 rfl ?_
    refine e_getf fX8_20 X.obj rfl dX8_ordersByY_34 ?_
    refine e_aload_n dX8_ordersByY_37 rfl ?_
    refine e_getf fX8_69 X.obj rfl dX8_ordersByY_38 ?_
    refine e_iload dX8_ordersByY_41 rfl ?_
    refine e_iconst dX8_ordersByY_43 ?_
    refine e_isub dX8_ordersByY_44 ?_
    refine e_ial X.a18 (by omega) (by omega) rfl ((congrArg _ (show (((i + 1 : Nat) : Int) - 1).toNat = i by omega)).trans hv) dX8_ordersByY_45 ?_
    refine e_ial X.a2 (by omega) (by omega) rfl ((congrFun f2 _).trans (e4 _ ho).2.2) dX8_ordersByY_46 ?_
    refine e_aload_n dX8_ordersByY_47 rfl ?_
    refine e_getf fX8_20 X.obj rfl dX8_ordersByY_48 ?_
    refine e_iload_n dX8_ordersByY_51 rfl ?_
    refine e_ial X.a2 (by omega) (by omega) rfl ((congrFun f2 _).trans (e4 p hp).2.2) dX8_ordersByY_52 ?_
    refine e_icmp_le (tgt := 78) ⟨by omega, by omega⟩ ⟨by omega, by omega⟩ dX8_ordersByY_53 rfl (fun c_53 => ?_) (fun c_53 => ?_)
    · have e5 : i9 = i + 1 := hy.symm.trans (eY.trans (if_neg (by omega)))
      subst e5
      exact e_loc [(4, .int (iN ((i + 1) : Nat))), (3, .int (iN (p : Nat))), (2, .int (iN (O.length : Nat))), (0, .ref m), (1, .int (iN a))] ⟨rfl, rfl, rfl, rfl, rfl, trivial⟩ (kk _ _ X hA hI)
    · have e5 : ypN P O p i = i9 := (eY.trans (if_pos (by omega))).symm.trans hy
      refine e_aload_n dX8_ordersByY_56 rfl ?_
      refine e_getf fX8_69 X.obj rfl dX8_ordersByY_57 ?_
      refine e_iload dX8_ordersByY_60 rfl ?_
      refine e_aload_n dX8_ordersByY_62 rfl ?_
      refine e_getf fX8_69 X.obj rfl dX8_ordersByY_63 ?_
      refine e_iload dX8_ordersByY_66 rfl ?_
      refine e_iconst dX8_ordersByY_68 ?_
      refine e_isub dX8_ordersByY_69 ?_
      refine e_ial X.a18 (by omega) (by omega) rfl ((congrArg _ (show (((i + 1 : Nat) : Int) - 1).toNat = i by omega)).trans hv) dX8_ordersByY_70 ?_
      refine e_iastore X.a18 (by omega) (by omega) rfl dX8_ordersByY_71 ?_
      refine X.sto18 (fun h9 X9 => ?_)
      replace X := X9
      clear X9
      refine e_iinc dX8_ordersByY_72 rfl ?_
      refine e_goto (tgt := 28) dX8_ordersByY_75 rfl ?_
      rw [show ((i + 1 : Nat) : Int) + -1 = (i : Int) by omega]
      exact e_loc [(4, .int (iN (i : Nat))), (3, .int (iN (p : Nat))), (2, .int (iN (O.length : Nat))), (0, .ref m), (1, .int (iN a))] ⟨rfl, rfl, rfl, rfl, rfl, trivial⟩ (ih _ _ X (fun j hj => (uA_n hj).trans (hA j hj)) ⟨fun q hq => by
        show uI (ar1 18) (i + 1) _ q = _
        rw [uI_n _ _ (by omega)]
        exact hI.1 q (by omega), fun q h1 h2 => by
        show uI (ar1 18) (i + 1) _ (q + 1) = _
        by_cases c : q = i
        · rw [c, uI_s]
        · rw [uI_n _ _ (by omega)]
          exact hI.2 q (by omega) h2⟩ (by omega) e5)
set_option maxRecDepth 20000 in
theorem oy_loop {z : Option Nat} {a : Int} (ra : r32 a) (hP : mdP sc ar P) : ∀ (n p : Nat) (ar1 : Nat → Nat → Int) (h : g_hp), mdX G sc ar1 m h0 h → (∀ j, j ≠ 18 → ar1 j = ar j) → oyR (oyN P a p) ar1 → p + n = P.length → Ev (g_B G mX8_ordersByY 0 0 (fun o z1 h1 => ∃ v, o = .inl v ∧ z1 = z ∧ (fun v h1 => v = some (.int (iN ((oyN P a P.length).length : Nat))) ∧ ∃ ar1, mdX G sc ar1 m h0 h1 ∧ oyR (oyN P a P.length) ar1 ∧ ∀ j, j ≠ 18 → ar1 j = ar j) v h1)) 0 0 z h 4 [(3, .int (iN (p : Nat))), (2, .int (iN ((oyN P a p).length : Nat))), (0, .ref m), (1, .int (iN a))] [] := by
  have hP9 := hP
  obtain ⟨e1, e2, e3, e4⟩ := hP
  have ra1 := ra.1
  have ra2 := ra.2
  intro n
  induction n with
  | zero =>
    intro p ar1 h X hA hI hpn
    have e9 : p = P.length := by omega
    subst e9
    refine e_iload_n dX8_ordersByY_4 rfl ?_
    refine e_aload_n dX8_ordersByY_5 rfl ?_
    refine e_getf fX8_108 X.obj rfl dX8_ordersByY_6 ?_
    rw [e1]
    refine e_icmp_ge (tgt := 95) ⟨by omega, by omega⟩ ⟨by omega, by omega⟩ dX8_ordersByY_9 rfl (fun c_9 => ?_) (fun c_9 => absurd (by omega) c_9)
    refine e_iload_n dX8_ordersByY_95 rfl ?_
    refine e_iret rfl dX8_ordersByY_96 (by decide) (by decide) ?_
    exact ⟨_, rfl, rfl, rfl, _, X, hI, hA⟩
  | succ n ih =>
    intro p ar1 h X hA hI hpn
    have hp : p < P.length := by omega
    have b1 := (e3.at hp).2.2
    have hc := oyN_len P a p
    have hc2 := cntN_le P a p
    have hO := oyN_lt P a p
    have hyl := ypN_le P (oyN P a p) p (oyN P a p).length
    have eO : oyN P a (p + 1) = if pM P p = a then ynI (oyN P a p) (ypN P (oyN P a p) p (oyN P a p).length) p else oyN P a p := rfl
    have f0 : ar1 0 = ar 0 := hA 0 (by decide)
    refine e_iload_n dX8_ordersByY_4 rfl ?_
    refine e_aload_n dX8_ordersByY_5 rfl ?_
    refine e_getf fX8_108 X.obj rfl dX8_ordersByY_6 ?_
    rw [e1]
    refine e_icmp_ge (tgt := 95) ⟨by omega, by omega⟩ ⟨by omega, by omega⟩ dX8_ordersByY_9 rfl (fun c_9 => absurd c_9 (by omega)) (fun c_9 => ?_)
    refine e_aload_n dX8_ordersByY_12 rfl ?_
    refine e_getf fX8_13 X.obj rfl dX8_ordersByY_13 ?_
    refine e_iload_n dX8_ordersByY_16 rfl ?_
    refine e_ial X.a0 (by omega) (by omega) rfl ((congrFun f0 _).trans (e4 p hp).1) dX8_ordersByY_17 ?_
    refine e_iload_n dX8_ordersByY_18 rfl ?_
    refine e_icmp_eq (tgt := 25) ⟨by omega, by omega⟩ ⟨by omega, by omega⟩ dX8_ordersByY_19 rfl (fun c_19 => ?_) (fun c_19 => ?_)
    · refine e_iload_n dX8_ordersByY_25 rfl ?_
      refine e_istore dX8_ordersByY_26 rfl ?_
      refine e_loc [(4, .int (iN ((oyN P a p).length : Nat))), (3, .int (iN (p : Nat))), (2, .int (iN ((oyN P a p).length : Nat))), (0, .ref m), (1, .int (iN a))] ⟨rfl, rfl, rfl, rfl, rfl, trivial⟩ (oy_shift hP9 hp (fun i hi => by have := hO i hi; omega) (by omega) (fun ar1 h X hA hI => ?_) _ _ _ X hA ⟨fun q hq => hI q hq, fun q h1 h2 => absurd h2 (by omega)⟩ (Nat.le_refl _) rfl)
      refine e_aload_n dX8_ordersByY_78 rfl ?_
      refine e_getf fX8_69 X.obj rfl dX8_ordersByY_79 ?_
      refine e_iload dX8_ordersByY_82 rfl ?_
      refine e_iload_n dX8_ordersByY_84 rfl ?_
      refine e_iastore X.a18 (by omega) (by omega) rfl dX8_ordersByY_85 ?_
      refine X.sto18 (fun h9 X9 => ?_)
      replace X := X9
      clear X9
      refine e_iinc dX8_ordersByY_86 rfl ?_
      refine e_iinc dX8_ordersByY_89 rfl ?_
      refine e_goto (tgt := 4) dX8_ordersByY_92 rfl ?_
      have eO2 := eO.trans (if_pos c_19)
      exact e_loc [(3, .int (iN (p + 1 : Nat))), (2, .int (iN ((oyN P a (p + 1)).length : Nat))), (0, .ref m), (1, .int (iN a))] ⟨rfl, by rw [eO2, ynI_len hyl]; rfl, rfl, rfl, trivial⟩ (ih (p + 1) _ _ X (fun j hj => (uA_n hj).trans (hA j hj)) (by
        rw [eO2]
        intro i hi
        rw [ynI_len hyl] at hi
        rw [ynI_getD hyl]
        show uI (ar1 18) (ypN P (oyN P a p) p (oyN P a p).length) (p : Int) i = _
        by_cases c : i < ypN P (oyN P a p) p (oyN P a p).length
        · rw [if_pos c, uI_n _ _ (by omega)]
          exact hI.1 i c
        · rw [if_neg c]
          by_cases d : i = ypN P (oyN P a p) p (oyN P a p).length
          · rw [if_pos d, d, uI_s]
          · rw [if_neg d, uI_n _ _ d]
            have := hI.2 (i - 1) (by omega) (by omega)
            rw [show i - 1 + 1 = i by omega] at this
            exact this) (by omega))
    · have eO2 := eO.trans (if_neg c_19)
      refine e_goto (tgt := 89) dX8_ordersByY_22 rfl ?_
      refine e_iinc dX8_ordersByY_89 rfl ?_
      refine e_goto (tgt := 4) dX8_ordersByY_92 rfl ?_
      exact e_loc [(3, .int (iN (p + 1 : Nat))), (2, .int (iN ((oyN P a (p + 1)).length : Nat))), (0, .ref m), (1, .int (iN a))] ⟨rfl, by rw [eO2]; rfl, rfl, rfl, trivial⟩ (ih (p + 1) _ _ X hA (by rw [eO2]; exact hI) (by omega))
set_option maxRecDepth 20000 in
theorem S_ordersByY (X : mdX G sc ar m h0 h) (hP : mdP sc ar P) {a : Int} (ra : r32 a) : Does G mX8_ordersByY [.ref m, .int (iN a)] h (fun v h1 => v = some (.int (iN ((oyN P a P.length).length : Nat))) ∧ ∃ ar1, mdX G sc ar1 m h0 h1 ∧ oyR (oyN P a P.length) ar1 ∧ ∀ j, j ≠ 18 → ar1 j = ar j) := by
  intro z
  refine run_of rfl plX8 rfl ?_
  refine e_iconst dX8_ordersByY_0 ?_
  refine e_istore_n dX8_ordersByY_1 rfl ?_
  refine e_iconst dX8_ordersByY_2 ?_
  refine e_istore_n dX8_ordersByY_3 rfl ?_
  have hz : oyR (oyN P a 0) ar := fun i hi => absurd hi (Nat.not_lt_zero i)
  have hl := oy_loop (G := G) (m := m) (h0 := h0) (z := z) (sc := sc) (ar := ar) ra hP P.length 0 ar h X (fun _ _ => rfl) hz (Nat.zero_add _)
  exact e_loc [(3, .int (iN (0 : Nat))), (2, .int (iN (0 : Nat))), (0, .ref m), (1, .int (iN a))] ⟨rfl, rfl, rfl, rfl, trivial⟩ hl
set_option maxRecDepth 20000 in
theorem hh_loop {z : Option Nat} (X : mdX G sc ar m h0 h) (hP : mdP sc ar P) {O : List Nat} (hR : oyR O ar) (hO : ∀ i, i < O.length → O.getD i 0 < P.length) (hl : O.length ≤ 60) {lo hi fr : Int} (rlo : r32 lo) (rhi : r32 hi) (rfr : r32 fr) {pts : Nat} (hpt : pts ≤ 100) {R : Int} : ∀ (f k n : Nat), k + f = O.length → n ≤ k → htS P O lo hi fr pts f k n = R → Ev (g_B G mX8_height 0 0 (fun o z1 h1 => o = .inl (some (.int (iN R))) ∧ z1 = z ∧ h1 = h)) 0 0 z h 6 [(7, .int (iN (k : Nat))), (6, .int (iN (n : Nat))), (0, .ref m), (1, .int (iN (O.length : Nat))), (2, .int (iN lo)), (3, .int (iN hi)), (4, .int (iN fr)), (5, .int (iN (pts : Nat)))] [] := by
  obtain ⟨e1, e2, e3, e4⟩ := hP
  have rlo1 := rlo.1
  have rlo2 := rlo.2
  have rhi1 := rhi.1
  have rhi2 := rhi.2
  have rfr1 := rfr.1
  have rfr2 := rfr.2
  intro f
  induction f with
  | zero =>
    intro k n hkf hnk hQ
    have e9 : R = -1 := hQ.symm
    subst e9
    refine e_iload dX8_height_6 rfl ?_
    refine e_iload_n dX8_height_8 rfl ?_
    refine e_icmp_ge (tgt := 78) ⟨by omega, by omega⟩ ⟨by omega, by omega⟩ dX8_height_9 rfl (fun c_9 => ?_) (fun c_9 => absurd (by omega) c_9)
    refine e_iconst dX8_height_78 ?_
    refine e_iret rfl dX8_height_79 (by decide) (by decide) ?_
    exact ⟨rfl, rfl, rfl⟩
  | succ f ih =>
    intro k n hkf hnk hQ
    have hk : k < O.length := by omega
    have ho := hO k hk
    have b1 := e3.at ho
    have eH : htS P O lo hi fr pts (f + 1) k n = if htC P lo hi fr (O.getD k 0) then (if n + 1 = pts then pY P (O.getD k 0) - fr else htS P O lo hi fr pts f (k + 1) (n + 1)) else htS P O lo hi fr pts f (k + 1) n := rfl
    refine e_iload dX8_height_6 rfl ?_
    refine e_iload_n dX8_height_8 rfl ?_
    refine e_icmp_ge (tgt := 78) ⟨by omega, by omega⟩ ⟨by omega, by omega⟩ dX8_height_9 rfl (fun c_9 => absurd c_9 (by omega)) (fun c_9 => ?_)
    refine e_aload_n dX8_height_12 rfl ?_
    refine e_getf fX8_69 X.obj rfl dX8_height_13 ?_
    refine e_iload dX8_height_16 rfl ?_
    refine e_ial X.a18 (by omega) (by omega) rfl (hR k hk) dX8_height_18 ?_
    refine e_istore dX8_height_19 rfl ?_
    refine e_aload_n dX8_height_21 rfl ?_
    refine e_getf fX8_20 X.obj rfl dX8_height_22 ?_
    refine e_iload dX8_height_25 rfl ?_
    refine e_ial X.a2 (by omega) (by omega) rfl (e4 _ ho).2.2 dX8_height_27 ?_
    refine e_iload dX8_height_28 rfl ?_
    refine e_icmp_lt (tgt := 72) ⟨by omega, by omega⟩ ⟨by omega, by omega⟩ dX8_height_30 rfl (fun c_30 => ?_) (fun c_30 => ?_)
    · have e5 : htS P O lo hi fr pts f (k + 1) n = R := (eH.trans (if_neg (fun w => absurd w.1 (by omega)))).symm.trans hQ
      refine e_iinc dX8_height_72 rfl ?_
      refine e_goto (tgt := 6) dX8_height_75 rfl ?_
      first | exact e_loc [(7, .int (iN (k + 1 : Nat))), (6, .int (iN (n : Nat))), (0, .ref m), (1, .int (iN (O.length : Nat))), (2, .int (iN lo)), (3, .int (iN hi)), (4, .int (iN fr)), (5, .int (iN (pts : Nat)))] ⟨rfl, rfl, rfl, rfl, rfl, rfl, rfl, rfl, trivial⟩ (ih (k + 1) (n) (by omega) (by omega) e5) | exact e_loc [(7, .int (iN (k + 1 : Nat))), (6, .int (iN (n + 1 : Nat))), (0, .ref m), (1, .int (iN (O.length : Nat))), (2, .int (iN lo)), (3, .int (iN hi)), (4, .int (iN fr)), (5, .int (iN (pts : Nat)))] ⟨rfl, rfl, rfl, rfl, rfl, rfl, rfl, rfl, trivial⟩ (ih (k + 1) (n + 1) (by omega) (by omega) e5)
    · refine e_aload_n dX8_height_33 rfl ?_
      refine e_getf fX8_17 X.obj rfl dX8_height_34 ?_
      refine e_iload dX8_height_37 rfl ?_
      refine e_ial X.a1 (by omega) (by omega) rfl (e4 _ ho).2.1 dX8_height_39 ?_
      refine e_iload_n dX8_height_40 rfl ?_
      refine e_iload_n dX8_height_41 rfl ?_
      refine e_pureS qcX8_96 (S_min (v := pX P (O.getD k 0)) ⟨by omega, by omega⟩ rlo rhi) rfl rfl rfl rfl dX8_height_42 ?_
      refine e_ifP_ne (tgt := 51) dX8_height_45 rfl (fun c_45 => ?_) (fun c_45 => ?_)
      · refine e_iinc dX8_height_51 rfl ?_
        refine e_iload dX8_height_54 rfl ?_
        refine e_iload dX8_height_56 rfl ?_
        refine e_icmp_ne (tgt := 72) ⟨by omega, by omega⟩ ⟨by omega, by omega⟩ dX8_height_58 rfl (fun c_58 => ?_) (fun c_58 => ?_)
        · have e5 : htS P O lo hi fr pts f (k + 1) (n + 1) = R := ((eH.trans (if_pos ⟨Int.not_lt.mp c_30, c_45⟩)).trans (if_neg (by omega))).symm.trans hQ
          refine e_iinc dX8_height_72 rfl ?_
          refine e_goto (tgt := 6) dX8_height_75 rfl ?_
          first | exact e_loc [(7, .int (iN (k + 1 : Nat))), (6, .int (iN (n : Nat))), (0, .ref m), (1, .int (iN (O.length : Nat))), (2, .int (iN lo)), (3, .int (iN hi)), (4, .int (iN fr)), (5, .int (iN (pts : Nat)))] ⟨rfl, rfl, rfl, rfl, rfl, rfl, rfl, rfl, trivial⟩ (ih (k + 1) (n) (by omega) (by omega) e5) | exact e_loc [(7, .int (iN (k + 1 : Nat))), (6, .int (iN (n + 1 : Nat))), (0, .ref m), (1, .int (iN (O.length : Nat))), (2, .int (iN lo)), (3, .int (iN hi)), (4, .int (iN fr)), (5, .int (iN (pts : Nat)))] ⟨rfl, rfl, rfl, rfl, rfl, rfl, rfl, rfl, trivial⟩ (ih (k + 1) (n + 1) (by omega) (by omega) e5)
        · have e5 : pY P (O.getD k 0) - fr = R := ((eH.trans (if_pos ⟨Int.not_lt.mp c_30, c_45⟩)).trans (if_pos (by omega))).symm.trans hQ
          refine e_aload_n dX8_height_61 rfl ?_
          refine e_getf fX8_20 X.obj rfl dX8_height_62 ?_
          refine e_iload dX8_height_65 rfl ?_
          refine e_ial X.a2 (by omega) (by omega) rfl (e4 _ ho).2.2 dX8_height_67 ?_
          refine e_iload dX8_height_68 rfl ?_
          refine e_isub dX8_height_70 ?_
          refine e_iret rfl dX8_height_71 (by decide) (by decide) ?_
          exact ⟨by rw [e5], rfl, rfl⟩
      · have e5 : htS P O lo hi fr pts f (k + 1) n = R := (eH.trans (if_neg (fun w => c_45 w.2))).symm.trans hQ
        refine e_goto (tgt := 72) dX8_height_48 rfl ?_
        refine e_iinc dX8_height_72 rfl ?_
        refine e_goto (tgt := 6) dX8_height_75 rfl ?_
        first | exact e_loc [(7, .int (iN (k + 1 : Nat))), (6, .int (iN (n : Nat))), (0, .ref m), (1, .int (iN (O.length : Nat))), (2, .int (iN lo)), (3, .int (iN hi)), (4, .int (iN fr)), (5, .int (iN (pts : Nat)))] ⟨rfl, rfl, rfl, rfl, rfl, rfl, rfl, rfl, trivial⟩ (ih (k + 1) (n) (by omega) (by omega) e5) | exact e_loc [(7, .int (iN (k + 1 : Nat))), (6, .int (iN (n + 1 : Nat))), (0, .ref m), (1, .int (iN (O.length : Nat))), (2, .int (iN lo)), (3, .int (iN hi)), (4, .int (iN fr)), (5, .int (iN (pts : Nat)))] ⟨rfl, rfl, rfl, rfl, rfl, rfl, rfl, rfl, trivial⟩ (ih (k + 1) (n + 1) (by omega) (by omega) e5)
set_option maxRecDepth 20000 in
theorem S_height (X : mdX G sc ar m h0 h) (hP : mdP sc ar P) {O : List Nat} (hR : oyR O ar) (hO : ∀ i, i < O.length → O.getD i 0 < P.length) (hl : O.length ≤ 60) {lo hi fr : Int} (rlo : r32 lo) (rhi : r32 hi) (rfr : r32 fr) {pts : Nat} (hpt : pts ≤ 100) : Pure G mX8_height [.ref m, .int (iN (O.length : Nat)), .int (iN lo), .int (iN hi), .int (iN fr), .int (iN (pts : Nat))] h (.int (iN (htM P O lo hi fr pts))) := by
  intro z
  refine run_of rfl plX8 rfl ?_
  refine e_iconst dX8_height_0 ?_
  refine e_istore dX8_height_1 rfl ?_
  refine e_iconst dX8_height_3 ?_
  refine e_istore dX8_height_4 rfl ?_
  exact e_loc [(7, .int (iN (0 : Nat))), (6, .int (iN (0 : Nat))), (0, .ref m), (1, .int (iN (O.length : Nat))), (2, .int (iN lo)), (3, .int (iN hi)), (4, .int (iN fr)), (5, .int (iN (pts : Nat)))] ⟨rfl, rfl, rfl, rfl, rfl, rfl, rfl, rfl, trivial⟩ (hh_loop X hP hR hO hl rlo rhi rfr hpt _ 0 0 (Nat.zero_add _) (Nat.le_refl _) rfl)
set_option maxRecDepth 20000 in
theorem fe_q {Z : g_Z} (X : mdX G sc ar m h0 h) (hP : mdP sc ar P) {O : List Nat} (hR : oyR O ar) (hO : ∀ i, i < O.length → O.getD i 0 < P.length) (hl : O.length ≤ 60) {a : Int} (ra : r32 a) {pts : Nat} (hpt : pts ≤ 100) {p o : Nat} (hp : p < P.length) (ho : o < P.length) (hw : 0 ≤ wdF P p o) {b : Int} (hb : bF b) (k : Ev (g_B G mX8_fence 0 0 Z) 0 0 none h 234 [(6, .int (iN (o : Nat))), (5, .int (iN (p : Nat))), (3, .int (iN (feQ P O a p o pts b (P.length)))), (4, .int (iN (O.length : Nat))), (0, .ref m), (1, .int (iN a)), (2, .int (iN (pts : Nat)))] []) : ∀ (n q : Nat), q + n = P.length → Ev (g_B G mX8_fence 0 0 Z) 0 0 none h 148 [(8, .int (iN (q : Nat))), (7, .int (iN (wdF P p o))), (6, .int (iN (o : Nat))), (5, .int (iN (p : Nat))), (3, .int (iN (feQ P O a p o pts b (q)))), (4, .int (iN (O.length : Nat))), (0, .ref m), (1, .int (iN a)), (2, .int (iN (pts : Nat)))] [] := by
  have hP9 := hP
  obtain ⟨e1, e2, e3, e4⟩ := hP
  have ra1 := ra.1
  have ra2 := ra.2
  have hw2 := wdF_bd e3 hp ho
  intro n
  induction n with
  | zero =>
    intro q hqn
    have e9 : q = P.length := by omega
    rw [e9]
    refine e_iload dX8_fence_148 rfl ?_
    refine e_aload_n dX8_fence_150 rfl ?_
    refine e_getf fX8_108 X.obj rfl dX8_fence_151 ?_
    rw [e1]
    refine e_icmp_ge (tgt := 234) ⟨by omega, by omega⟩ ⟨by omega, by omega⟩ dX8_fence_154 rfl (fun c_154 => ?_) (fun c_154 => absurd (by omega) c_154)
    exact e_loc [(6, .int (iN (o : Nat))), (5, .int (iN (p : Nat))), (3, .int (iN (feQ P O a p o pts b (P.length)))), (4, .int (iN (O.length : Nat))), (0, .ref m), (1, .int (iN a)), (2, .int (iN (pts : Nat)))] ⟨rfl, rfl, rfl, rfl, rfl, rfl, rfl, trivial⟩ k
  | succ n ih =>
    intro q hqn
    have hq : q < P.length := by omega
    have b1 := e3.at hq
    have b2 := e3.at hp
    have b3 := e3.at ho
    have d1 := hgQ_bd e3 hO (a := a) (p := p) (o := o) (pts := pts) hq
    have d2 := feQ_bd e3 hO (a := a) (pts := pts) ⟨hw, hw2.2⟩ hb q (by omega)
    have eF : feQ P O a p o pts b (q + 1) = if ¬ hgQ P O a p o pts q = -1 ∧ (feQ P O a p o pts b q = -1 ∨ wdF P p o + hgQ P O a p o pts q < feQ P O a p o pts b q) then wdF P p o + hgQ P O a p o pts q else feQ P O a p o pts b q := rfl
    have eG : hgQ P O a p o pts q = if pM P q = a then htM P O (pX P p) (pX P o) (pY P q) pts else -1 := rfl
    refine e_iload dX8_fence_148 rfl ?_
    refine e_aload_n dX8_fence_150 rfl ?_
    refine e_getf fX8_108 X.obj rfl dX8_fence_151 ?_
    rw [e1]
    refine e_icmp_ge (tgt := 234) ⟨by omega, by omega⟩ ⟨by omega, by omega⟩ dX8_fence_154 rfl (fun c_154 => absurd c_154 (by omega)) (fun c_154 => ?_)
    refine e_aload_n dX8_fence_157 rfl ?_
    refine e_getf fX8_13 X.obj rfl dX8_fence_158 ?_
    refine e_iload dX8_fence_161 rfl ?_
    refine e_ial X.a0 (by omega) (by omega) rfl (e4 q hq).1 dX8_fence_163 ?_
    refine e_iload_n dX8_fence_164 rfl ?_
    refine e_icmp_eq (tgt := 172) ⟨by omega, by omega⟩ ⟨by omega, by omega⟩ dX8_fence_165 rfl (fun c_165 => ?_) (fun c_165 => ?_)
    · refine e_aload_n dX8_fence_172 rfl ?_
      refine e_iload dX8_fence_173 rfl ?_
      refine e_aload_n dX8_fence_175 rfl ?_
      refine e_getf fX8_17 X.obj rfl dX8_fence_176 ?_
      refine e_iload dX8_fence_179 rfl ?_
      refine e_ial X.a1 (by omega) (by omega) rfl (e4 p hp).2.1 dX8_fence_181 ?_
      refine e_aload_n dX8_fence_182 rfl ?_
      refine e_getf fX8_17 X.obj rfl dX8_fence_183 ?_
      refine e_iload dX8_fence_186 rfl ?_
      refine e_ial X.a1 (by omega) (by omega) rfl (e4 o ho).2.1 dX8_fence_188 ?_
      refine e_aload_n dX8_fence_189 rfl ?_
      refine e_getf fX8_20 X.obj rfl dX8_fence_190 ?_
      refine e_iload dX8_fence_193 rfl ?_
      refine e_ial X.a2 (by omega) (by omega) rfl (e4 q hq).2.2 dX8_fence_195 ?_
      refine e_iload_n dX8_fence_196 rfl ?_
      refine e_pureV qcX8_306 X.obj rfl rfl (S_height X hP9 hR hO hl ⟨by omega, by omega⟩ ⟨by omega, by omega⟩ ⟨by omega, by omega⟩ hpt) rfl rfl rfl rfl dX8_fence_197 ?_
      refine e_top (hgQ P O a p o pts q) (eG.trans (if_pos c_165)).symm ?_
      generalize hgQ P O a p o pts q = hg at d1 eF eG ⊢
      generalize feQ P O a p o pts b q = b9 at d2 eF ⊢
      refine e_istore dX8_fence_200 rfl ?_
      refine e_iload dX8_fence_202 rfl ?_
      refine e_iconst dX8_fence_204 ?_
      refine e_icmp_eq (tgt := 228) ⟨by omega, by omega⟩ ⟨by omega, by omega⟩ dX8_fence_205 rfl (fun c_205 => ?_) (fun c_205 => ?_)
      · have e5 : feQ P O a p o pts b (q + 1) = b9 := eF.trans (if_neg (fun w => w.1 c_205))
        refine e_iinc dX8_fence_228 rfl ?_
        refine e_goto (tgt := 148) dX8_fence_231 rfl ?_
        exact e_loc [(8, .int (iN (q + 1 : Nat))), (7, .int (iN (wdF P p o))), (6, .int (iN (o : Nat))), (5, .int (iN (p : Nat))), (3, .int (iN (feQ P O a p o pts b (q + 1)))), (4, .int (iN (O.length : Nat))), (0, .ref m), (1, .int (iN a)), (2, .int (iN (pts : Nat)))] ⟨rfl, rfl, rfl, rfl, by rw [e5]; rfl, rfl, rfl, rfl, rfl, trivial⟩ (ih (q + 1) (by omega))
      · refine e_iload_n dX8_fence_208 rfl ?_
        refine e_iconst dX8_fence_209 ?_
        refine e_icmp_eq (tgt := 222) ⟨by omega, by omega⟩ ⟨by omega, by omega⟩ dX8_fence_210 rfl (fun c_210 => ?_) (fun c_210 => ?_)
        · have e5 : feQ P O a p o pts b (q + 1) = wdF P p o + hg := eF.trans (if_pos ⟨c_205, Or.inl c_210⟩)
          refine e_iload dX8_fence_222 rfl ?_
          refine e_iload dX8_fence_224 rfl ?_
          refine e_iadd dX8_fence_226 ?_
          refine e_istore_n dX8_fence_227 rfl ?_
          refine e_iinc dX8_fence_228 rfl ?_
          refine e_goto (tgt := 148) dX8_fence_231 rfl ?_
          exact e_loc [(8, .int (iN (q + 1 : Nat))), (7, .int (iN (wdF P p o))), (6, .int (iN (o : Nat))), (5, .int (iN (p : Nat))), (3, .int (iN (feQ P O a p o pts b (q + 1)))), (4, .int (iN (O.length : Nat))), (0, .ref m), (1, .int (iN a)), (2, .int (iN (pts : Nat)))] ⟨rfl, rfl, rfl, rfl, by rw [e5]; rfl, rfl, rfl, rfl, rfl, trivial⟩ (ih (q + 1) (by omega))
        · refine e_iload dX8_fence_213 rfl ?_
          refine e_iload dX8_fence_215 rfl ?_
          refine e_iadd dX8_fence_217 ?_
          refine e_iload_n dX8_fence_218 rfl ?_
          refine e_icmp_ge (tgt := 228) ⟨by omega, by omega⟩ ⟨by omega, by omega⟩ dX8_fence_219 rfl (fun c_219 => ?_) (fun c_219 => ?_)
          · have e5 : feQ P O a p o pts b (q + 1) = b9 := eF.trans (if_neg (fun w => w.2.elim (fun w => c_210 w) (fun w => absurd w (Int.not_lt.mpr c_219))))
            refine e_iinc dX8_fence_228 rfl ?_
            refine e_goto (tgt := 148) dX8_fence_231 rfl ?_
            exact e_loc [(8, .int (iN (q + 1 : Nat))), (7, .int (iN (wdF P p o))), (6, .int (iN (o : Nat))), (5, .int (iN (p : Nat))), (3, .int (iN (feQ P O a p o pts b (q + 1)))), (4, .int (iN (O.length : Nat))), (0, .ref m), (1, .int (iN a)), (2, .int (iN (pts : Nat)))] ⟨rfl, rfl, rfl, rfl, by rw [e5]; rfl, rfl, rfl, rfl, rfl, trivial⟩ (ih (q + 1) (by omega))
          · have e5 : feQ P O a p o pts b (q + 1) = wdF P p o + hg := eF.trans (if_pos ⟨c_205, Or.inr (Int.not_le.mp c_219)⟩)
            refine e_iload dX8_fence_222 rfl ?_
            refine e_iload dX8_fence_224 rfl ?_
            refine e_iadd dX8_fence_226 ?_
            refine e_istore_n dX8_fence_227 rfl ?_
            refine e_iinc dX8_fence_228 rfl ?_
            refine e_goto (tgt := 148) dX8_fence_231 rfl ?_
            exact e_loc [(8, .int (iN (q + 1 : Nat))), (7, .int (iN (wdF P p o))), (6, .int (iN (o : Nat))), (5, .int (iN (p : Nat))), (3, .int (iN (feQ P O a p o pts b (q + 1)))), (4, .int (iN (O.length : Nat))), (0, .ref m), (1, .int (iN a)), (2, .int (iN (pts : Nat)))] ⟨rfl, rfl, rfl, rfl, by rw [e5]; rfl, rfl, rfl, rfl, rfl, trivial⟩ (ih (q + 1) (by omega))
    · refine e_iconst dX8_fence_168 ?_
      refine e_top (hgQ P O a p o pts q) (eG.trans (if_neg c_165)).symm ?_
      generalize hgQ P O a p o pts q = hg at d1 eF eG ⊢
      generalize feQ P O a p o pts b q = b9 at d2 eF ⊢
      refine e_goto (tgt := 200) dX8_fence_169 rfl ?_
      refine e_istore dX8_fence_200 rfl ?_
      refine e_iload dX8_fence_202 rfl ?_
      refine e_iconst dX8_fence_204 ?_
      refine e_icmp_eq (tgt := 228) ⟨by omega, by omega⟩ ⟨by omega, by omega⟩ dX8_fence_205 rfl (fun c_205 => ?_) (fun c_205 => ?_)
      · have e5 : feQ P O a p o pts b (q + 1) = b9 := eF.trans (if_neg (fun w => w.1 c_205))
        refine e_iinc dX8_fence_228 rfl ?_
        refine e_goto (tgt := 148) dX8_fence_231 rfl ?_
        exact e_loc [(8, .int (iN (q + 1 : Nat))), (7, .int (iN (wdF P p o))), (6, .int (iN (o : Nat))), (5, .int (iN (p : Nat))), (3, .int (iN (feQ P O a p o pts b (q + 1)))), (4, .int (iN (O.length : Nat))), (0, .ref m), (1, .int (iN a)), (2, .int (iN (pts : Nat)))] ⟨rfl, rfl, rfl, rfl, by rw [e5]; rfl, rfl, rfl, rfl, rfl, trivial⟩ (ih (q + 1) (by omega))
      · refine e_iload_n dX8_fence_208 rfl ?_
        refine e_iconst dX8_fence_209 ?_
        refine e_icmp_eq (tgt := 222) ⟨by omega, by omega⟩ ⟨by omega, by omega⟩ dX8_fence_210 rfl (fun c_210 => ?_) (fun c_210 => ?_)
        · have e5 : feQ P O a p o pts b (q + 1) = wdF P p o + hg := eF.trans (if_pos ⟨c_205, Or.inl c_210⟩)
          refine e_iload dX8_fence_222 rfl ?_
          refine e_iload dX8_fence_224 rfl ?_
          refine e_iadd dX8_fence_226 ?_
          refine e_istore_n dX8_fence_227 rfl ?_
          refine e_iinc dX8_fence_228 rfl ?_
          refine e_goto (tgt := 148) dX8_fence_231 rfl ?_
          exact e_loc [(8, .int (iN (q + 1 : Nat))), (7, .int (iN (wdF P p o))), (6, .int (iN (o : Nat))), (5, .int (iN (p : Nat))), (3, .int (iN (feQ P O a p o pts b (q + 1)))), (4, .int (iN (O.length : Nat))), (0, .ref m), (1, .int (iN a)), (2, .int (iN (pts : Nat)))] ⟨rfl, rfl, rfl, rfl, by rw [e5]; rfl, rfl, rfl, rfl, rfl, trivial⟩ (ih (q + 1) (by omega))
        · refine e_iload dX8_fence_213 rfl ?_
          refine e_iload dX8_fence_215 rfl ?_
          refine e_iadd dX8_fence_217 ?_
          refine e_iload_n dX8_fence_218 rfl ?_
          refine e_icmp_ge (tgt := 228) ⟨by omega, by omega⟩ ⟨by omega, by omega⟩ dX8_fence_219 rfl (fun c_219 => ?_) (fun c_219 => ?_)
          · have e5 : feQ P O a p o pts b (q + 1) = b9 := eF.trans (if_neg (fun w => w.2.elim (fun w => c_210 w) (fun w => absurd w (Int.not_lt.mpr c_219))))
            refine e_iinc dX8_fence_228 rfl ?_
            refine e_goto (tgt := 148) dX8_fence_231 rfl ?_
            exact e_loc [(8, .int (iN (q + 1 : Nat))), (7, .int (iN (wdF P p o))), (6, .int (iN (o : Nat))), (5, .int (iN (p : Nat))), (3, .int (iN (feQ P O a p o pts b (q + 1)))), (4, .int (iN (O.length : Nat))), (0, .ref m), (1, .int (iN a)), (2, .int (iN (pts : Nat)))] ⟨rfl, rfl, rfl, rfl, by rw [e5]; rfl, rfl, rfl, rfl, rfl, trivial⟩ (ih (q + 1) (by omega))
          · have e5 : feQ P O a p o pts b (q + 1) = wdF P p o + hg := eF.trans (if_pos ⟨c_205, Or.inr (Int.not_le.mp c_219)⟩)
            refine e_iload dX8_fence_222 rfl ?_
            refine e_iload dX8_fence_224 rfl ?_
            refine e_iadd dX8_fence_226 ?_
            refine e_istore_n dX8_fence_227 rfl ?_
            refine e_iinc dX8_fence_228 rfl ?_
            refine e_goto (tgt := 148) dX8_fence_231 rfl ?_
            exact e_loc [(8, .int (iN (q + 1 : Nat))), (7, .int (iN (wdF P p o))), (6, .int (iN (o : Nat))), (5, .int (iN (p : Nat))), (3, .int (iN (feQ P O a p o pts b (q + 1)))), (4, .int (iN (O.length : Nat))), (0, .ref m), (1, .int (iN a)), (2, .int (iN (pts : Nat)))] ⟨rfl, rfl, rfl, rfl, by rw [e5]; rfl, rfl, rfl, rfl, rfl, trivial⟩ (ih (q + 1) (by omega))
set_option maxRecDepth 20000 in
theorem fe_o {Z : g_Z} (X : mdX G sc ar m h0 h) (hP : mdP sc ar P) {O : List Nat} (hR : oyR O ar) (hO : ∀ i, i < O.length → O.getD i 0 < P.length) (hl : O.length ≤ 60) {a : Int} (ra : r32 a) {pts : Nat} (hpt : pts ≤ 100) {p : Nat} (hp : p < P.length) {b : Int} (hb : bF b) (k : Ev (g_B G mX8_fence 0 0 Z) 0 0 none h 240 [(5, .int (iN (p : Nat))), (3, .int (iN (feO P O a p pts b (P.length)))), (4, .int (iN (O.length : Nat))), (0, .ref m), (1, .int (iN a)), (2, .int (iN (pts : Nat)))] []) : ∀ (n o : Nat), o + n = P.length → Ev (g_B G mX8_fence 0 0 Z) 0 0 none h 78 [(6, .int (iN (o : Nat))), (5, .int (iN (p : Nat))), (3, .int (iN (feO P O a p pts b (o)))), (4, .int (iN (O.length : Nat))), (0, .ref m), (1, .int (iN a)), (2, .int (iN (pts : Nat)))] [] := by
  have hP9 := hP
  obtain ⟨e1, e2, e3, e4⟩ := hP
  have ra1 := ra.1
  have ra2 := ra.2
  intro n
  induction n with
  | zero =>
    intro o hon
    have e9 : o = P.length := by omega
    rw [e9]
    refine e_iload dX8_fence_78 rfl ?_
    refine e_aload_n dX8_fence_80 rfl ?_
    refine e_getf fX8_108 X.obj rfl dX8_fence_81 ?_
    rw [e1]
    refine e_icmp_ge (tgt := 240) ⟨by omega, by omega⟩ ⟨by omega, by omega⟩ dX8_fence_84 rfl (fun c_84 => ?_) (fun c_84 => absurd (by omega) c_84)
    exact e_loc [(5, .int (iN (p : Nat))), (3, .int (iN (feO P O a p pts b (P.length)))), (4, .int (iN (O.length : Nat))), (0, .ref m), (1, .int (iN a)), (2, .int (iN (pts : Nat)))] ⟨rfl, rfl, rfl, rfl, rfl, rfl, trivial⟩ k
  | succ n ih =>
    intro o hon
    have ho : o < P.length := by omega
    have b1 := e3.at ho
    have b2 := e3.at hp
    have hw := wdF_bd e3 hp ho
    have d2 := feO_bd e3 hO (a := a) (pts := pts) hp hb o (by omega)
    have eF : feO P O a p pts b (o + 1) = if feC P a p o (feO P O a p pts b o) then feQ P O a p o pts (feO P O a p pts b o) P.length else feO P O a p pts b o := rfl
    generalize hb9 : feO P O a p pts b o = b9 at d2 eF ⊢
    refine e_iload dX8_fence_78 rfl ?_
    refine e_aload_n dX8_fence_80 rfl ?_
    refine e_getf fX8_108 X.obj rfl dX8_fence_81 ?_
    rw [e1]
    refine e_icmp_ge (tgt := 240) ⟨by omega, by omega⟩ ⟨by omega, by omega⟩ dX8_fence_84 rfl (fun c_84 => absurd c_84 (by omega)) (fun c_84 => ?_)
    refine e_aload_n dX8_fence_87 rfl ?_
    refine e_getf fX8_17 X.obj rfl dX8_fence_88 ?_
    refine e_iload dX8_fence_91 rfl ?_
    refine e_ial X.a1 (by omega) (by omega) rfl (e4 o ho).2.1 dX8_fence_93 ?_
    refine e_aload_n dX8_fence_94 rfl ?_
    refine e_getf fX8_17 X.obj rfl dX8_fence_95 ?_
    refine e_iload dX8_fence_98 rfl ?_
    refine e_ial X.a1 (by omega) (by omega) rfl (e4 p hp).2.1 dX8_fence_100 ?_
    refine e_isub dX8_fence_101 ?_
    rw [show pX P o - pX P p = wdF P p o from rfl]
    refine e_istore dX8_fence_102 rfl ?_
    refine e_aload_n dX8_fence_104 rfl ?_
    refine e_getf fX8_13 X.obj rfl dX8_fence_105 ?_
    refine e_iload dX8_fence_108 rfl ?_
    refine e_ial X.a0 (by omega) (by omega) rfl (e4 p hp).1 dX8_fence_110 ?_
    refine e_iload_n dX8_fence_111 rfl ?_
    refine e_icmp_ne (tgt := 234) ⟨by omega, by omega⟩ ⟨by omega, by omega⟩ dX8_fence_112 rfl (fun c_112 => ?_) (fun c_112 => ?_)
    · have e5 : feO P O a p pts b (o + 1) = b9 := eF.trans (if_neg (fun w => c_112 w.1))
      refine e_iinc dX8_fence_234 rfl ?_
      refine e_goto (tgt := 78) dX8_fence_237 rfl ?_
      exact e_loc [(6, .int (iN (o + 1 : Nat))), (5, .int (iN (p : Nat))), (3, .int (iN (feO P O a p pts b (o + 1)))), (4, .int (iN (O.length : Nat))), (0, .ref m), (1, .int (iN a)), (2, .int (iN (pts : Nat)))] ⟨rfl, rfl, by rw [e5]; rfl, rfl, rfl, rfl, rfl, trivial⟩ (ih (o + 1) (by omega))
    · refine e_aload_n dX8_fence_115 rfl ?_
      refine e_getf fX8_13 X.obj rfl dX8_fence_116 ?_
      refine e_iload dX8_fence_119 rfl ?_
      refine e_ial X.a0 (by omega) (by omega) rfl (e4 o ho).1 dX8_fence_121 ?_
      refine e_iload_n dX8_fence_122 rfl ?_
      refine e_icmp_ne (tgt := 234) ⟨by omega, by omega⟩ ⟨by omega, by omega⟩ dX8_fence_123 rfl (fun c_123 => ?_) (fun c_123 => ?_)
      · have e5 : feO P O a p pts b (o + 1) = b9 := eF.trans (if_neg (fun w => c_123 w.2.1))
        refine e_iinc dX8_fence_234 rfl ?_
        refine e_goto (tgt := 78) dX8_fence_237 rfl ?_
        exact e_loc [(6, .int (iN (o + 1 : Nat))), (5, .int (iN (p : Nat))), (3, .int (iN (feO P O a p pts b (o + 1)))), (4, .int (iN (O.length : Nat))), (0, .ref m), (1, .int (iN a)), (2, .int (iN (pts : Nat)))] ⟨rfl, rfl, by rw [e5]; rfl, rfl, rfl, rfl, rfl, trivial⟩ (ih (o + 1) (by omega))
      · refine e_iload dX8_fence_126 rfl ?_
        refine e_if_lt (tgt := 234) ⟨by omega, by omega⟩ dX8_fence_128 rfl (fun c_128 => ?_) (fun c_128 => ?_)
        · have e5 : feO P O a p pts b (o + 1) = b9 := eF.trans (if_neg (fun w => absurd w.2.2.1 (Int.not_le.mpr c_128)))
          refine e_iinc dX8_fence_234 rfl ?_
          refine e_goto (tgt := 78) dX8_fence_237 rfl ?_
          exact e_loc [(6, .int (iN (o + 1 : Nat))), (5, .int (iN (p : Nat))), (3, .int (iN (feO P O a p pts b (o + 1)))), (4, .int (iN (O.length : Nat))), (0, .ref m), (1, .int (iN a)), (2, .int (iN (pts : Nat)))] ⟨rfl, rfl, by rw [e5]; rfl, rfl, rfl, rfl, rfl, trivial⟩ (ih (o + 1) (by omega))
        · refine e_iload_n dX8_fence_131 rfl ?_
          refine e_iconst dX8_fence_132 ?_
          refine e_icmp_eq (tgt := 145) ⟨by omega, by omega⟩ ⟨by omega, by omega⟩ dX8_fence_133 rfl (fun c_133 => ?_) (fun c_133 => ?_)
          · have c5 : feC P a p o b9 := ⟨Decidable.of_not_not c_112, Decidable.of_not_not c_123, Int.not_lt.mp c_128, Or.inl c_133⟩
            refine e_iconst dX8_fence_145 ?_
            refine e_istore dX8_fence_146 rfl ?_
            have e5 : feO P O a p pts b (o + 1) = feQ P O a p o pts b9 P.length := eF.trans (if_pos c5)
            refine e_loc [(8, .int (iN (0 : Nat))), (7, .int (iN (wdF P p o))), (6, .int (iN (o : Nat))), (5, .int (iN (p : Nat))), (3, .int (iN (feQ P O a p o pts b9 0))), (4, .int (iN (O.length : Nat))), (0, .ref m), (1, .int (iN a)), (2, .int (iN (pts : Nat)))] ⟨rfl, rfl, rfl, rfl, rfl, rfl, rfl, rfl, rfl, trivial⟩ (fe_q X hP9 hR hO hl ra hpt hp ho c5.2.2.1 d2 ?_ _ 0 (Nat.zero_add _))
            refine e_iinc dX8_fence_234 rfl ?_
            refine e_goto (tgt := 78) dX8_fence_237 rfl ?_
            exact e_loc [(6, .int (iN (o + 1 : Nat))), (5, .int (iN (p : Nat))), (3, .int (iN (feO P O a p pts b (o + 1)))), (4, .int (iN (O.length : Nat))), (0, .ref m), (1, .int (iN a)), (2, .int (iN (pts : Nat)))] ⟨rfl, rfl, by rw [e5]; rfl, rfl, rfl, rfl, rfl, trivial⟩ (ih (o + 1) (by omega))
          · refine e_iload dX8_fence_136 rfl ?_
            refine e_iload_n dX8_fence_138 rfl ?_
            refine e_icmp_lt (tgt := 145) ⟨by omega, by omega⟩ ⟨by omega, by omega⟩ dX8_fence_139 rfl (fun c_139 => ?_) (fun c_139 => ?_)
            · have c5 : feC P a p o b9 := ⟨Decidable.of_not_not c_112, Decidable.of_not_not c_123, Int.not_lt.mp c_128, Or.inr c_139⟩
              refine e_iconst dX8_fence_145 ?_
              refine e_istore dX8_fence_146 rfl ?_
              have e5 : feO P O a p pts b (o + 1) = feQ P O a p o pts b9 P.length := eF.trans (if_pos c5)
              refine e_loc [(8, .int (iN (0 : Nat))), (7, .int (iN (wdF P p o))), (6, .int (iN (o : Nat))), (5, .int (iN (p : Nat))), (3, .int (iN (feQ P O a p o pts b9 0))), (4, .int (iN (O.length : Nat))), (0, .ref m), (1, .int (iN a)), (2, .int (iN (pts : Nat)))] ⟨rfl, rfl, rfl, rfl, rfl, rfl, rfl, rfl, rfl, trivial⟩ (fe_q X hP9 hR hO hl ra hpt hp ho c5.2.2.1 d2 ?_ _ 0 (Nat.zero_add _))
              refine e_iinc dX8_fence_234 rfl ?_
              refine e_goto (tgt := 78) dX8_fence_237 rfl ?_
              exact e_loc [(6, .int (iN (o + 1 : Nat))), (5, .int (iN (p : Nat))), (3, .int (iN (feO P O a p pts b (o + 1)))), (4, .int (iN (O.length : Nat))), (0, .ref m), (1, .int (iN a)), (2, .int (iN (pts : Nat)))] ⟨rfl, rfl, by rw [e5]; rfl, rfl, rfl, rfl, rfl, trivial⟩ (ih (o + 1) (by omega))
            · have e5 : feO P O a p pts b (o + 1) = b9 := eF.trans (if_neg (fun w => w.2.2.2.elim c_133 c_139))
              refine e_goto (tgt := 234) dX8_fence_142 rfl ?_
              refine e_iinc dX8_fence_234 rfl ?_
              refine e_goto (tgt := 78) dX8_fence_237 rfl ?_
              exact e_loc [(6, .int (iN (o + 1 : Nat))), (5, .int (iN (p : Nat))), (3, .int (iN (feO P O a p pts b (o + 1)))), (4, .int (iN (O.length : Nat))), (0, .ref m), (1, .int (iN a)), (2, .int (iN (pts : Nat)))] ⟨rfl, rfl, by rw [e5]; rfl, rfl, rfl, rfl, rfl, trivial⟩ (ih (o + 1) (by omega))
set_option maxRecDepth 20000 in
theorem fe_p {Z : g_Z} (X : mdX G sc ar m h0 h) (hP : mdP sc ar P) {O : List Nat} (hR : oyR O ar) (hO : ∀ i, i < O.length → O.getD i 0 < P.length) (hl : O.length ≤ 60) {a : Int} (ra : r32 a) {pts : Nat} (hpt : pts ≤ 100) (k : Ev (g_B G mX8_fence 0 0 Z) 0 0 none h 246 [(3, .int (iN (feP P O a pts (P.length))))] []) : ∀ (n p : Nat), p + n = P.length → Ev (g_B G mX8_fence 0 0 Z) 0 0 none h 66 [(5, .int (iN (p : Nat))), (3, .int (iN (feP P O a pts (p)))), (4, .int (iN (O.length : Nat))), (0, .ref m), (1, .int (iN a)), (2, .int (iN (pts : Nat)))] [] := by
  have hP9 := hP
  obtain ⟨e1, e2, e3, e4⟩ := hP
  have ra1 := ra.1
  have ra2 := ra.2
  intro n
  induction n with
  | zero =>
    intro p hpn
    have e9 : p = P.length := by omega
    rw [e9]
    refine e_iload dX8_fence_66 rfl ?_
    refine e_aload_n dX8_fence_68 rfl ?_
    refine e_getf fX8_108 X.obj rfl dX8_fence_69 ?_
    rw [e1]
    refine e_icmp_ge (tgt := 246) ⟨by omega, by omega⟩ ⟨by omega, by omega⟩ dX8_fence_72 rfl (fun c_72 => ?_) (fun c_72 => absurd (by omega) c_72)
    exact e_loc [(3, .int (iN (feP P O a pts (P.length))))] ⟨rfl, trivial⟩ k
  | succ n ih =>
    intro p hpn
    have hp : p < P.length := by omega
    refine e_iload dX8_fence_66 rfl ?_
    refine e_aload_n dX8_fence_68 rfl ?_
    refine e_getf fX8_108 X.obj rfl dX8_fence_69 ?_
    rw [e1]
    refine e_icmp_ge (tgt := 246) ⟨by omega, by omega⟩ ⟨by omega, by omega⟩ dX8_fence_72 rfl (fun c_72 => absurd c_72 (by omega)) (fun c_72 => ?_)
    refine e_iconst dX8_fence_75 ?_
    refine e_istore dX8_fence_76 rfl ?_
    refine e_loc [(6, .int (iN (0 : Nat))), (5, .int (iN (p : Nat))), (3, .int (iN (feO P O a p pts (feP P O a pts p) 0))), (4, .int (iN (O.length : Nat))), (0, .ref m), (1, .int (iN a)), (2, .int (iN (pts : Nat)))] ⟨rfl, rfl, rfl, rfl, rfl, rfl, rfl, trivial⟩ (fe_o X hP9 hR hO hl ra hpt hp (feP_bd e3 hO p (by omega)) ?_ _ 0 (Nat.zero_add _))
    refine e_iinc dX8_fence_240 rfl ?_
    refine e_goto (tgt := 66) dX8_fence_243 rfl ?_
    exact e_loc [(5, .int (iN (p + 1 : Nat))), (3, .int (iN (feP P O a pts (p + 1)))), (4, .int (iN (O.length : Nat))), (0, .ref m), (1, .int (iN a)), (2, .int (iN (pts : Nat)))] ⟨rfl, rfl, rfl, rfl, rfl, rfl, trivial⟩ (ih (p + 1) (by omega))
set_option maxRecDepth 20000 in
theorem M_fence (X : mdX G sc0 ar m h0 h) (hR : mdR sc0 ar P E S b P2 E2 S2 F) {a : Int} (ra : r32 a) {p : Int} (rp : r32 p) (hm : ∀ q : Nat, 1 ≤ q → q ≤ (putN P a [] P.length).length → feP P (oyN P a P.length) a q P.length = fnO (putN P a [] P.length) q (putN P a [] P.length).length) : Run G mX8_fence [.ref m, .int (iN a), .int (iN p)] none h 0 0 (mZ G (k_fence P a p) P E S b P2 E2 S2 F m h0) := by
  have ra1 := ra.1
  have ra2 := ra.2
  have rp1 := rp.1
  have rp2 := rp.2
  refine run_of rfl plX8 rfl ?_
  refine e_aload_n dX8_fence_0 rfl ?_
  refine e_iconst dX8_fence_1 ?_
  refine e_putf pfX8_1 X.obj rfl rfl rfl dX8_fence_2 ?_
  refine X.pto (q := 0) (fun h9 X9 => ?_) rfl
  replace X := X9
  clear X9
  replace hR := hR.t0 0
  have ht : uI sc0 0 0 0 = 0 := uI_s _ _ _
  generalize uI sc0 0 0 = sc at X hR ht
  refine e_aload_n dX8_fence_5 rfl ?_
  refine e_iload_n dX8_fence_6 rfl ?_
  
  by_cases c_7 : hpOK a
  · have e9 := ord_len P a
    have e8 := cntN_le P a P.length
    have e7 := hR.1.2.1
    refine e_pureV qcX8_111 X.obj rfl rfl (S_noHeap_t X ra c_7 ht) rfl rfl rfl rfl dX8_fence_7 ?_
    refine e_if_ne (tgt := 52) ⟨by decide, by decide⟩ dX8_fence_10 rfl (fun c_10 => absurd rfl c_10) (fun c_10 => ?_)
    refine e_aload_n dX8_fence_13 rfl ?_
    refine e_iload_n dX8_fence_14 rfl ?_
    
    by_cases c_p : 0 < p
    · refine e_if_le (tgt := 22) ⟨by omega, by omega⟩ dX8_fence_15 rfl (fun c_0 => absurd c_0 (by omega)) (fun c_0 => ?_)
      refine e_iconst dX8_fence_18 ?_
      refine e_top (bP (0 < p)) (bP_t c_p).symm ?_
      refine e_goto (tgt := 23) dX8_fence_19 rfl ?_
      refine e_iconst dX8_fence_23 ?_
      refine e_pureV qcX8_104 X.obj rfl rfl (S_fails_t X c_p ht) rfl rfl rfl rfl dX8_fence_24 ?_
      refine e_if_ne (tgt := 52) ⟨by decide, by decide⟩ dX8_fence_27 rfl (fun c_27 => absurd rfl c_27) (fun c_27 => ?_)
      refine e_aload_n dX8_fence_30 rfl ?_
      refine e_iload_n dX8_fence_31 rfl ?_
      refine e_aload_n dX8_fence_32 rfl ?_
      refine e_iload_n dX8_fence_33 rfl ?_
      refine e_pureV qcX8_122 X.obj rfl rfl (S_many X hR.1 ra) rfl rfl rfl rfl dX8_fence_34 ?_
      
      by_cases c_c : p ≤ ((cntN P a P.length : Nat) : Int)
      · refine e_icmp_gt (tgt := 44) ⟨by omega, by omega⟩ ⟨by omega, by omega⟩ dX8_fence_37 rfl (fun c_0 => absurd c_0 (by omega)) (fun c_0 => ?_)
        refine e_iconst dX8_fence_40 ?_
        refine e_top (bP (p ≤ ((cntN P a P.length : Nat) : Int))) (bP_t c_c).symm ?_
        refine e_goto (tgt := 45) dX8_fence_41 rfl ?_
        refine e_iconst dX8_fence_45 ?_
        refine e_pureV qcX8_104 X.obj rfl rfl (S_fails_t X c_c ht) rfl rfl rfl rfl dX8_fence_46 ?_
        refine e_if_eq (tgt := 54) ⟨by decide, by decide⟩ dX8_fence_49 rfl (fun c_49 => ?_) (fun c_49 => absurd rfl c_49)
        refine e_iconst dX8_fence_54 ?_
        refine e_istore_n dX8_fence_55 rfl ?_
        refine e_aload_n dX8_fence_56 rfl ?_
        refine e_iload_n dX8_fence_57 rfl ?_
        obtain ⟨q, rfl⟩ : ∃ q : Nat, p = (q : Int) := ⟨p.toNat, by omega⟩
        refine e_doesV qcX8_303 X.obj rfl rfl (S_ordersByY X hR.1 ra) rfl rfl rfl rfl dX8_fence_58 ?_
        intro v h9 q9
        obtain ⟨rfl, ar1, X, hO1, hA⟩ := q9
        have hB : agr frK frJ sc ar sc ar1 := ⟨fun _ _ => rfl, fun j hj => hA j (fun w => hj (by rw [w]; decide))⟩
        replace hR := hR.to hB (hR.2.2.2.2.to (hA 5 (by decide)) (hA 6 (by decide)) (hA 7 (by decide)))
        have hOL := oyN_lt P a P.length
        have hOc := oyN_len P a P.length
        refine e_istore dX8_fence_61 rfl ?_
        refine e_iconst dX8_fence_63 ?_
        refine e_istore dX8_fence_64 rfl ?_
        refine e_loc [(5, .int (iN (0 : Nat))), (3, .int (iN (feP P (oyN P a P.length) a q 0))), (4, .int (iN ((oyN P a P.length).length : Nat))), (0, .ref m), (1, .int (iN a)), (2, .int (iN (q : Nat)))] ⟨rfl, rfl, rfl, rfl, rfl, rfl, trivial⟩ (fe_p (O := (oyN P a P.length)) X hR.1 hO1 hOL (by omega) ra (by omega) ?_ _ 0 (Nat.zero_add _))
        rw [hm q (by omega) (by omega)]
        refine e_iload_n dX8_fence_246 rfl ?_
        refine e_iret rfl dX8_fence_247 (by decide) (by decide) ?_
        exact mz (show (k_fence P a (q : Int)) = (0, fnO (putN P a [] P.length) q (putN P a [] P.length).length) from (((if_pos c_7).trans (if_pos (by omega))).trans (if_pos (by omega)))) ⟨rfl, rfl, _, _, X, hR, ht⟩
      refine e_icmp_gt (tgt := 44) ⟨by omega, by omega⟩ ⟨by omega, by omega⟩ dX8_fence_37 rfl (fun c_0 => ?_) (fun c_0 => absurd (by omega) c_0)
      refine e_iconst dX8_fence_44 ?_
      refine e_top (bP (p ≤ ((cntN P a P.length : Nat) : Int))) (bP_f c_c).symm ?_
      refine e_iconst dX8_fence_45 ?_
      refine e_doesV qcX8_104 X.obj rfl rfl (S_fails_f X c_c ht ⟨by decide, by decide⟩) rfl rfl rfl rfl dX8_fence_46 ?_
      intro v h9 q9
      obtain ⟨rfl, X⟩ := q9
      refine e_if_eq (tgt := 54) ⟨by decide, by decide⟩ dX8_fence_49 rfl (fun c_49 => absurd c_49 (by decide)) (fun c_49 => ?_)
      refine e_iconst dX8_fence_52 ?_
      refine e_iret rfl dX8_fence_53 (by decide) (by decide) ?_
      exact mz (show (k_fence P a p) = (2, 0) from (((if_pos c_7).trans (if_pos (by omega))).trans (if_neg (by omega)))) ⟨rfl, rfl, _, _, X, hR.t0 _, uI_s _ _ _⟩
    refine e_if_le (tgt := 22) ⟨by omega, by omega⟩ dX8_fence_15 rfl (fun c_0 => ?_) (fun c_0 => absurd (by omega) c_0)
    refine e_iconst dX8_fence_22 ?_
    refine e_top (bP (0 < p)) (bP_f c_p).symm ?_
    refine e_iconst dX8_fence_23 ?_
    refine e_doesV qcX8_104 X.obj rfl rfl (S_fails_f X c_p ht ⟨by decide, by decide⟩) rfl rfl rfl rfl dX8_fence_24 ?_
    intro v h9 q9
    obtain ⟨rfl, X⟩ := q9
    refine e_if_ne (tgt := 52) ⟨by decide, by decide⟩ dX8_fence_27 rfl (fun c_27 => ?_) (fun c_27 => absurd (by decide) c_27)
    refine e_iconst dX8_fence_52 ?_
    refine e_iret rfl dX8_fence_53 (by decide) (by decide) ?_
    exact mz (show (k_fence P a p) = (1, 0) from ((if_pos c_7).trans (if_neg (by omega)))) ⟨rfl, rfl, _, _, X, hR.t0 _, uI_s _ _ _⟩
  refine e_doesV qcX8_111 X.obj rfl rfl (S_noHeap_f X ra c_7 ht) rfl rfl rfl rfl dX8_fence_7 ?_
  intro v h9 q9
  obtain ⟨rfl, X⟩ := q9
  refine e_if_ne (tgt := 52) ⟨by decide, by decide⟩ dX8_fence_10 rfl (fun c_10 => ?_) (fun c_10 => absurd (by decide) c_10)
  refine e_iconst dX8_fence_52 ?_
  refine e_iret rfl dX8_fence_53 (by decide) (by decide) ?_
  exact mz (show (k_fence P a p) = (1, 0) from (if_neg c_7)) ⟨rfl, rfl, _, _, X, hR.t0 _, uI_s _ _ _⟩
end MEIGHTEEN
