/-! Row: insertion in order, removal, copies -/
abbrev behind (L : PL) (x y : Int) (i : Nat) : Prop := x < pX L i ∨ (pX L i = x ∧ y < pY L i)
/-- the place behind those that are not behind (x, y), counted from n downwards -/
def ipos (L : PL) (x y : Int) : Nat → Nat
  | 0 => 0
  | n + 1 => if behind L x y n then ipos L x y n else n + 1
theorem ipos_le (L : PL) (x y : Int) : ∀ n, ipos L x y n ≤ n
  | 0 => Nat.le_refl _
  | n + 1 => by
    unfold ipos
    split
    · exact Nat.le_succ_of_le (ipos_le L x y n)
    · exact Nat.le_refl _
def insAt (L : PL) (i : Nat) (e : Int × Int × Int) : PL := L.take i ++ e :: L.drop i
def insE (L : PL) (e : Int × Int × Int) : PL := insAt L (ipos L e.1 e.2.1 L.length) e
theorem insAt_len {L : PL} {i : Nat} {e : Int × Int × Int} (hi : i ≤ L.length) : (insAt L i e).length = L.length + 1 := by
  unfold insAt
  simp
  omega
theorem insAt_getD {L : PL} {i j : Nat} {e : Int × Int × Int} (hi : i ≤ L.length) : (insAt L i e).getD j d3 = if j < i then L.getD j d3 else if j = i then e else L.getD (j - 1) d3 := by
  unfold insAt
  by_cases c : j < i
  · rw [if_pos c]
    simp only [List.getD]
    rw [List.getElem?_append_left (by simp; omega), List.getElem?_take, if_pos c]
  · rw [if_neg c]
    simp only [List.getD]
    rw [List.getElem?_append_right (by simp; omega)]
    have e1 : (L.take i).length = i := by simp; omega
    rw [e1]
    by_cases c2 : j = i
    · subst c2
      simp
    · rw [if_neg c2]
      obtain ⟨k, hk⟩ : ∃ k, j - i = k + 1 := ⟨j - i - 1, by omega⟩
      rw [hk, List.getElem?_cons_succ, List.getElem?_drop, show i + k = j - 1 by omega]
theorem okL_insAt {L : PL} {i : Nat} {e : Int × Int × Int} (h : okL L) (he : bd e.1 ∧ bd e.2.1 ∧ bd e.2.2) : okL (insAt L i e) := by
  intro q hq
  unfold insAt at hq
  rcases List.mem_append.mp hq with w | w
  · exact h q (List.mem_of_mem_take w)
  · rcases List.mem_cons.mp w with w | w
    · rw [w]; exact he
    · exact h q (List.mem_of_mem_drop w)
section PROWS2
variable {G : g_X} {N : Nat} {L : PL} {r : Nat} {h : g_hp}
/-- the loop of insertInOrder: the row has a place too many, the hole is at p -/
def insI (G : g_X) (N : Nat) (L : PL) (r : Nat) (h : g_hp) (p : Nat) (xs ys ms : Nat → Int) (h1 : g_hp) : Prop := rowF G N (L.length + 1) xs ys ms r h1 ∧ g_fr r 4 h h1 ∧ (∀ i, i < p → xs i = pX L i ∧ ys i = pY L i ∧ ms i = pM L i) ∧ ∀ i, p ≤ i → i < L.length → xs (i + 1) = pX L i ∧ ys (i + 1) = pY L i ∧ ms (i + 1) = pM L i
abbrev insZ (G : g_X) (N : Nat) (L : PL) (r : Nat) (h : g_hp) (z : Option Nat) (x y m : Int) : g_Z := fun o z1 h1 => ∃ v, o = .inl v ∧ z1 = z ∧ (v = none ∧ rowAt G N (insE L (x, y, m)) r h1 ∧ g_fr r 4 h h1)
set_option maxRecDepth 20000 in
theorem ins_end {z : Option Nat} {x y m : Int} (hlen : L.length < N) (hN : N ≤ 1000) (hk : okL L) (hx : bd x) (hy : bd y) (hm : bd m) {p : Nat} (hp : p ≤ L.length) {xs ys ms : Nat → Int} {h1 : g_hp} (hI : insI G N L r h p xs ys ms h1) (hq : ipos L x y L.length = p) :
    Ev (g_B G mX4_insertInOrder 0 0 (insZ G N L r h z x y m)) 0 0 z h1 85 [(4, .int (iN p)), (0, .ref r), (1, .int (iN x)), (2, .int (iN y)), (3, .int (iN m))] [] := by
  obtain ⟨f, fr, lo, hi⟩ := hI
  refine e_aload_n dX4_insertInOrder_85 rfl ?_
  refine e_iload dX4_insertInOrder_86 rfl ?_
  refine e_iload_n dX4_insertInOrder_88 rfl ?_
  refine e_iload_n dX4_insertInOrder_89 rfl ?_
  refine e_iload_n dX4_insertInOrder_90 rfl ?_
  refine e_doesV qcX4_36 f.1 rfl rfl (F_put f hN (show p < N by omega) x y m) rfl rfl rfl rfl dX4_insertInOrder_91 ?_
  intro v h2 q2
  obtain ⟨rfl, g2, fr2⟩ := q2
  refine e_vret rfl dX4_insertInOrder_94 (by decide) (by decide) ?_
  refine ⟨none, rfl, rfl, rfl, ?_, fr.tr fr2⟩
  unfold insE
  rw [hq]
  refine ⟨by rw [insAt_len hp]; omega, hN, okL_insAt hk ⟨hx, hy, hm⟩, _, _, _, by rw [insAt_len hp]; exact g2, fun j hj => ?_⟩
  rw [insAt_len hp] at hj
  unfold pX pY pM
  rw [insAt_getD hp]
  unfold uI
  by_cases c : j < p
  · have c2 : ¬ j = p := by omega
    have h9 := lo j c
    simp only [c, c2, if_true, if_false]
    exact h9
  · by_cases c2 : j = p
    · simp [c2]
    · have h9 := hi (j - 1) (by omega) (by omega)
      rw [show j - 1 + 1 = j by omega] at h9
      simp only [c, c2, if_false]
      exact h9
set_option maxRecDepth 20000 in
theorem ins_loop {z : Option Nat} {x y m : Int} (hlen : L.length < N) (hN : N ≤ 1000) (hk : okL L) (hx : bd x) (hy : bd y) (hm : bd m) : ∀ (p : Nat) (xs ys ms : Nat → Int) (h1 : g_hp), p ≤ L.length → insI G N L r h p xs ys ms h1 → ipos L x y L.length = ipos L x y p →
    Ev (g_B G mX4_insertInOrder 0 0 (insZ G N L r h z x y m)) 0 0 z h1 31 [(4, .int (iN p)), (0, .ref r), (1, .int (iN x)), (2, .int (iN y)), (3, .int (iN m))] [] := by
  intro p
  induction p with
  | zero =>
    intro xs ys ms h1 hp hI hq
    refine e_iload dX4_insertInOrder_31 rfl ?_
    refine e_if_le (tgt := 85) ⟨by omega, by omega⟩ dX4_insertInOrder_33 rfl (fun c_33 => ?_) (fun c_33 => absurd (Int.le_refl 0) c_33)
    exact ins_end hlen hN hk hx hy hm hp hI hq
  | succ p ih =>
    intro xs ys ms h1 hp hI hq
    obtain ⟨f, fr, lo, hi⟩ := id hI
    have hbp := hk.at (show p < L.length by omega)
    obtain ⟨l1, l2, l3⟩ := lo p (by omega)
    have e1 : ((p + 1 : Nat) : Int) - 1 = (p : Int) := by omega
    refine e_iload dX4_insertInOrder_31 rfl ?_
    refine e_if_le (tgt := 85) ⟨by omega, by omega⟩ dX4_insertInOrder_33 rfl (fun c_33 => ?_) (fun c_33 => ?_)
    · exact absurd c_33 (by omega)
    · refine e_aload_n dX4_insertInOrder_36 rfl ?_
      refine e_iload dX4_insertInOrder_37 rfl ?_
      refine e_iconst dX4_insertInOrder_39 ?_
      refine e_isub dX4_insertInOrder_40 ?_
      rw [e1]
      refine e_iload_n dX4_insertInOrder_41 rfl ?_
      refine e_iload_n dX4_insertInOrder_42 rfl ?_
      refine e_pureV qcX4_40 f.1 rfl rfl (F_isBehind f hN (show p < N by omega) ⟨by omega, by omega⟩ ⟨by omega, by omega⟩ (by rw [l1]; exact ⟨by omega, by omega⟩) (by rw [l2]; exact ⟨by omega, by omega⟩)) rfl rfl rfl rfl dX4_insertInOrder_43 ?_
      refine e_ifP_eq (tgt := 85) dX4_insertInOrder_46 rfl (fun c_46 => ?_) (fun c_46 => ?_)
      · exact ins_end hlen hN hk hx hy hm hp hI (hq.trans (if_neg (by rw [l1, l2] at c_46; exact c_46)))
      · refine e_aload_n dX4_insertInOrder_49 rfl ?_
        refine e_iload dX4_insertInOrder_50 rfl ?_
        refine e_aload_n dX4_insertInOrder_52 rfl ?_
        refine e_iload dX4_insertInOrder_53 rfl ?_
        refine e_iconst dX4_insertInOrder_55 ?_
        refine e_isub dX4_insertInOrder_56 ?_
        rw [e1]
        refine e_pureV qcX4_29 f.1 rfl rfl (F_xAt f hN (show p < N by omega)) rfl rfl rfl rfl dX4_insertInOrder_57 ?_
        refine e_aload_n dX4_insertInOrder_60 rfl ?_
        refine e_iload dX4_insertInOrder_61 rfl ?_
        refine e_iconst dX4_insertInOrder_63 ?_
        refine e_isub dX4_insertInOrder_64 ?_
        rw [e1]
        refine e_pureV qcX4_33 f.1 rfl rfl (F_yAt f hN (show p < N by omega)) rfl rfl rfl rfl dX4_insertInOrder_65 ?_
        refine e_aload_n dX4_insertInOrder_68 rfl ?_
        refine e_iload dX4_insertInOrder_69 rfl ?_
        refine e_iconst dX4_insertInOrder_71 ?_
        refine e_isub dX4_insertInOrder_72 ?_
        rw [e1]
        refine e_pureV qcX4_44 f.1 rfl rfl (F_markAt f hN (show p < N by omega)) rfl rfl rfl rfl dX4_insertInOrder_73 ?_
        refine e_doesV qcX4_36 f.1 rfl rfl (F_put f hN (show p + 1 < N by omega) (xs p) (ys p) (ms p)) rfl rfl rfl rfl dX4_insertInOrder_76 ?_
        intro v h2 q2
        obtain ⟨rfl, g2, fr2⟩ := q2
        rw [l1, l2, l3] at g2
        refine e_iinc dX4_insertInOrder_79 rfl ?_
        refine e_goto (tgt := 31) dX4_insertInOrder_82 rfl ?_
        rw [show ((p + 1 : Nat) : Int) + -1 = (p : Int) by omega]
        refine e_loc [(4, .int (iN p)), (0, .ref r), (1, .int (iN x)), (2, .int (iN y)), (3, .int (iN m))] ⟨rfl, rfl, rfl, rfl, rfl, trivial⟩ (ih _ _ _ h2 (by omega) ⟨g2, fr.tr fr2, fun i hi9 => ?_, fun i h7 h8 => ?_⟩ ?_)
        · have c2 : ¬ i = p + 1 := by omega
          unfold uI
          simp only [c2, if_false]
          exact lo i (by omega)
        · unfold uI
          by_cases c2 : i = p
          · subst c2
            simp
          · have c3 : ¬ i + 1 = p + 1 := by omega
            simp only [c3, if_false]
            exact hi i (by omega) h8
        · exact hq.trans (if_pos (by rw [l1, l2] at c_46; exact c_46))
set_option maxRecDepth 20000 in
theorem S_insertInOrder (hr : rowAt G N L r h) (hlen : L.length < N) {x y m : Int} (hx : bd x) (hy : bd y) (hm : bd m) : Does G mX4_insertInOrder [.ref r, .int (iN x), .int (iN y), .int (iN m)] h (fun v h1 => v = none ∧ rowAt G N (insE L (x, y, m)) r h1 ∧ g_fr r 4 h h1) := by
  intro z
  refine run_of rfl plX4 rfl ?_
  obtain ⟨hn, hN, hk, xs, ys, ms, ⟨f0, f1, f2, f3⟩, hc⟩ := hr
  refine e_aload_n dX4_insertInOrder_0 rfl ?_
  refine e_getf fX4_7 f0 rfl dX4_insertInOrder_1 ?_
  refine e_aload_n dX4_insertInOrder_4 rfl ?_
  refine e_getf fX4_19 f0 rfl dX4_insertInOrder_5 ?_
  refine e_alenI f1 dX4_insertInOrder_8 ?_
  refine e_icmp_lt (tgt := 13) ⟨by omega, by omega⟩ ⟨by omega, by omega⟩ dX4_insertInOrder_9 rfl (fun c_9 => ?_) (fun c_9 => absurd (show (L.length : Int) < N by omega) c_9)
  refine e_aload_n dX4_insertInOrder_13 rfl ?_
  refine e_dup dX4_insertInOrder_14 rfl ?_
  refine e_getf fX4_7 f0 rfl dX4_insertInOrder_15 ?_
  refine e_iconst dX4_insertInOrder_18 ?_
  refine e_iadd dX4_insertInOrder_19 ?_
  refine e_putf pfX4_7 f0 rfl rfl rfl dX4_insertInOrder_20 ?_
  have g1 : rowF G N (L.length + 1) xs ys ms r (g_up h r (.inr (2, [.ref (r + 1), .ref (r + 2), .ref (r + 3), .int (iN ((L.length : Int) + 1))]))) := ⟨g_up_s _ _ _, (g_up_n _ _ (by omega)).trans f1, (g_up_n _ _ (by omega)).trans f2, (g_up_n _ _ (by omega)).trans f3⟩
  refine (show Ev _ 0 0 z (g_up h r (.inr (2, [.ref (r + 1), .ref (r + 2), .ref (r + 3), .int (iN ((L.length : Int) + 1))]))) 23 _ _ from ?_)
  have fr1 : g_fr r 4 h (g_up h r (.inr (2, [.ref (r + 1), .ref (r + 2), .ref (r + 3), .int (iN ((L.length : Int) + 1))]))) := g_fr.rf.up (by omega) (by omega)
  generalize g_up h r (.inr (2, [.ref (r + 1), .ref (r + 2), .ref (r + 3), .int (iN ((L.length : Int) + 1))])) = h2 at g1 fr1 ⊢
  refine e_aload_n dX4_insertInOrder_23 rfl ?_
  refine e_getf fX4_7 g1.1 rfl dX4_insertInOrder_24 ?_
  refine e_iconst dX4_insertInOrder_27 ?_
  refine e_isub dX4_insertInOrder_28 ?_
  refine e_istore dX4_insertInOrder_29 rfl ?_
  rw [show ((L.length + 1 : Nat) : Int) - 1 = (L.length : Int) by omega]
  refine e_loc [(4, .int (iN L.length)), (0, .ref r), (1, .int (iN x)), (2, .int (iN y)), (3, .int (iN m))] ⟨rfl, rfl, rfl, rfl, rfl, trivial⟩ (ins_loop hlen hN hk hx hy hm L.length xs ys ms h2 (Nat.le_refl _) ⟨g1, fr1, hc, fun i h7 h8 => absurd h7 (by omega)⟩ rfl)
theorem eraseIdx_getD {L : PL} {i j : Nat} : (L.eraseIdx i).getD j d3 = if j < i then L.getD j d3 else L.getD (j + 1) d3 := by
  simp only [List.getD, List.getElem?_eraseIdx]
  split <;> rfl
/-- the loop of remove: places below j are as they shall be -/
def remI (G : g_X) (N : Nat) (L : PL) (r : Nat) (h : g_hp) (i j : Nat) (xs ys ms : Nat → Int) (h1 : g_hp) : Prop := rowF G N L.length xs ys ms r h1 ∧ g_fr r 4 h h1 ∧ (∀ q, q < j → xs q = pX (L.eraseIdx i) q ∧ ys q = pY (L.eraseIdx i) q ∧ ms q = pM (L.eraseIdx i) q) ∧ ∀ q, j < q → q < L.length → xs q = pX L q ∧ ys q = pY L q ∧ ms q = pM L q
set_option maxRecDepth 20000 in
theorem rem_loop {z : Option Nat} (hn : L.length ≤ N) (hN : N ≤ 1000) (hk : okL L) {i : Nat} (hi : i < L.length) : ∀ (n j : Nat) (xs ys ms : Nat → Int) (h1 : g_hp), j + n = L.length → i ≤ j → j < L.length → remI G N L r h i j xs ys ms h1 →
    Ev (g_B G mX4_remove 0 0 (fun o z1 h1 => ∃ v, o = .inl v ∧ z1 = z ∧ (v = none ∧ rowAt G N (L.eraseIdx i) r h1 ∧ g_fr r 4 h h1))) 0 0 z h1 15 [(2, .int (iN j)), (0, .ref r)] [] := by
  intro n
  induction n with
  | zero => intro j xs ys ms h1 hj h0 hjl; exact absurd hjl (by omega)
  | succ n ih =>
    intro j xs ys ms h1 hj hij hjl hI
    obtain ⟨f, fr, lo, hi9⟩ := hI
    obtain ⟨f0, f1, f2, f3⟩ := id f
    refine e_iload_n dX4_remove_15 rfl ?_
    refine e_iconst dX4_remove_16 ?_
    refine e_iadd dX4_remove_17 ?_
    refine e_aload_n dX4_remove_18 rfl ?_
    refine e_getf fX4_7 f0 rfl dX4_remove_19 ?_
    refine e_icmp_ge (tgt := 57) ⟨by omega, by omega⟩ ⟨by omega, by omega⟩ dX4_remove_22 rfl (fun c_22 => ?_) (fun c_22 => ?_)
    · refine e_aload_n dX4_remove_57 rfl ?_
      refine e_dup dX4_remove_58 rfl ?_
      refine e_getf fX4_7 f0 rfl dX4_remove_59 ?_
      refine e_iconst dX4_remove_62 ?_
      refine e_isub dX4_remove_63 ?_
      refine e_putf pfX4_7 f0 rfl rfl rfl dX4_remove_64 ?_
      refine e_vret rfl dX4_remove_67 (by decide) (by decide) ?_
      have e9 : (L.eraseIdx i).length = L.length - 1 := by rw [List.length_eraseIdx, if_pos hi]
      refine ⟨none, rfl, rfl, rfl, ⟨by omega, hN, fun q hq => hk q (List.mem_of_mem_eraseIdx hq), xs, ys, ms, ⟨?_, (g_up_n _ _ (by omega)).trans f1, (g_up_n _ _ (by omega)).trans f2, (g_up_n _ _ (by omega)).trans f3⟩, fun q hq => lo q (by omega)⟩, fr.tr (g_fr.rf.up (by omega) (by omega))⟩
      rw [g_up_s, e9, show ((L.length - 1 : Nat) : Int) = (L.length : Int) - 1 by omega]
      rfl
    · refine e_aload_n dX4_remove_25 rfl ?_
      refine e_iload_n dX4_remove_26 rfl ?_
      refine e_aload_n dX4_remove_27 rfl ?_
      refine e_iload_n dX4_remove_28 rfl ?_
      refine e_iconst dX4_remove_29 ?_
      refine e_iadd dX4_remove_30 ?_
      refine e_pureV qcX4_29 f.1 rfl rfl (F_xAt f hN (show j + 1 < N by omega)) rfl rfl rfl rfl dX4_remove_31 ?_
      refine e_aload_n dX4_remove_34 rfl ?_
      refine e_iload_n dX4_remove_35 rfl ?_
      refine e_iconst dX4_remove_36 ?_
      refine e_iadd dX4_remove_37 ?_
      refine e_pureV qcX4_33 f.1 rfl rfl (F_yAt f hN (show j + 1 < N by omega)) rfl rfl rfl rfl dX4_remove_38 ?_
      refine e_aload_n dX4_remove_41 rfl ?_
      refine e_iload_n dX4_remove_42 rfl ?_
      refine e_iconst dX4_remove_43 ?_
      refine e_iadd dX4_remove_44 ?_
      refine e_pureV qcX4_44 f.1 rfl rfl (F_markAt f hN (show j + 1 < N by omega)) rfl rfl rfl rfl dX4_remove_45 ?_
      refine e_doesV qcX4_36 f.1 rfl rfl (F_put f hN (show j < N by omega) (xs (j + 1)) (ys (j + 1)) (ms (j + 1))) rfl rfl rfl rfl dX4_remove_48 ?_
      intro v h2 q2
      obtain ⟨rfl, g2, fr2⟩ := q2
      refine e_iinc dX4_remove_51 rfl ?_
      refine e_goto (tgt := 15) dX4_remove_54 rfl ?_
      refine e_loc [(2, .int (iN (j + 1 : Nat))), (0, .ref r)] ⟨rfl, rfl, trivial⟩ (ih (j + 1) _ _ _ h2 (by omega) (by omega) (by omega) ⟨g2, fr.tr fr2, fun q hq => ?_, fun q h7 h8 => ?_⟩)
      · obtain ⟨l1, l2, l3⟩ := hi9 (j + 1) (by omega) (by omega)
        unfold uI
        by_cases c2 : q = j
        · subst c2
          simp only [pX, pY, pM] at l1 l2 l3 ⊢
          rw [eraseIdx_getD, if_neg (show ¬ q < i by omega)]
          simp only [if_true]
          exact ⟨l1, l2, l3⟩
        · simp only [c2, if_false]
          exact lo q (by omega)
      · have c2 : ¬ q = j := by omega
        unfold uI
        simp only [c2, if_false]
        exact hi9 q (by omega) h8
set_option maxRecDepth 20000 in
theorem S_remove (hr : rowAt G N L r h) {i : Nat} (hi : i < L.length) : Does G mX4_remove [.ref r, .int (iN i)] h (fun v h1 => v = none ∧ rowAt G N (L.eraseIdx i) r h1 ∧ g_fr r 4 h h1) := by
  intro z
  refine run_of rfl plX4 rfl ?_
  obtain ⟨hn, hN, hk, xs, ys, ms, f, hc⟩ := hr
  obtain ⟨f0, f1, f2, f3⟩ := id f
  refine e_iload_n dX4_remove_0 rfl ?_
  refine e_if_lt (tgt := 12) ⟨by omega, by omega⟩ dX4_remove_1 rfl (fun c_1 => ?_) (fun c_1 => ?_)
  · exact absurd c_1 (by omega)
  · refine e_iload_n dX4_remove_4 rfl ?_
    refine e_aload_n dX4_remove_5 rfl ?_
    refine e_getf fX4_7 f0 rfl dX4_remove_6 ?_
    refine e_icmp_lt (tgt := 13) ⟨by omega, by omega⟩ ⟨by omega, by omega⟩ dX4_remove_9 rfl (fun c_9 => ?_) (fun c_9 => absurd (show (i : Int) < L.length by omega) c_9)
    refine e_iload_n dX4_remove_13 rfl ?_
    refine e_istore_n dX4_remove_14 rfl ?_
    refine e_loc [(2, .int (iN i)), (0, .ref r)] ⟨rfl, rfl, trivial⟩ (rem_loop hn hN hk hi (L.length - i) i xs ys ms h (by omega) (Nat.le_refl _) hi ⟨f, g_fr.rf, fun q hq => ?_, fun q h7 h8 => hc q h8⟩)
    have h9 := hc q (by omega)
    unfold pX pY pM at h9 ⊢
    rw [eraseIdx_getD, if_pos hq]
    exact h9
set_option maxRecDepth 20000 in
theorem cpy_loop {z : Option Nat} {N2 r2 : Nat} {L2 : PL} (hd : r + 4 ≤ r2 ∨ r2 + 4 ≤ r) (hlen : L2.length ≤ N) : ∀ (n j : Nat) (h1 : g_hp), j + n = L2.length → rowAt G N2 L2 r2 h1 → rowAt G N (L2.take j) r h1 → g_fr r 4 h h1 →
    Ev (g_B G mX4_copyFrom 0 0 (fun o z1 h1 => ∃ v, o = .inl v ∧ z1 = z ∧ (v = none ∧ rowAt G N L2 r h1 ∧ g_fr r 4 h h1))) 0 0 z h1 6 [(2, .int (iN j)), (0, .ref r), (1, .ref r2)] [] := by
  intro n
  induction n with
  | zero =>
    intro j h1 hj r1 r3 fr
    have h9 := r1.1
    have h8 := r1.2.1
    refine e_iload_n dX4_copyFrom_6 rfl ?_
    refine e_aload_n dX4_copyFrom_7 rfl ?_
    refine e_getf fX4_7 r1.obj rfl dX4_copyFrom_8 ?_
    refine e_icmp_ge (tgt := 39) ⟨by omega, by omega⟩ ⟨by omega, by omega⟩ dX4_copyFrom_11 rfl (fun c_11 => ?_) (fun c_11 => absurd (show (L2.length : Int) ≤ j by omega) c_11)
    refine e_vret rfl dX4_copyFrom_39 (by decide) (by decide) ?_
    rw [List.take_of_length_le (by omega)] at r3
    exact ⟨none, rfl, rfl, rfl, r3, fr⟩
  | succ n ih =>
    intro j h1 hj r1 r3 fr
    have h9 := r1.1
    have h8 := r1.2.1
    have hjl : j < L2.length := by omega
    have hb := r1.2.2.1.at hjl
    have ht : (L2.take j).length = j := by rw [List.length_take]; omega
    refine e_iload_n dX4_copyFrom_6 rfl ?_
    refine e_aload_n dX4_copyFrom_7 rfl ?_
    refine e_getf fX4_7 r1.obj rfl dX4_copyFrom_8 ?_
    refine e_icmp_ge (tgt := 39) ⟨by omega, by omega⟩ ⟨by omega, by omega⟩ dX4_copyFrom_11 rfl (fun c_11 => ?_) (fun c_11 => ?_)
    · exact absurd c_11 (by omega)
    · refine e_aload_n dX4_copyFrom_14 rfl ?_
      refine e_aload_n dX4_copyFrom_15 rfl ?_
      refine e_iload_n dX4_copyFrom_16 rfl ?_
      refine e_pureV qcX4_29 r1.obj rfl rfl (S_xAt r1 hjl) rfl rfl rfl rfl dX4_copyFrom_17 ?_
      refine e_aload_n dX4_copyFrom_20 rfl ?_
      refine e_iload_n dX4_copyFrom_21 rfl ?_
      refine e_pureV qcX4_33 r1.obj rfl rfl (S_yAt r1 hjl) rfl rfl rfl rfl dX4_copyFrom_22 ?_
      refine e_aload_n dX4_copyFrom_25 rfl ?_
      refine e_iload_n dX4_copyFrom_26 rfl ?_
      refine e_pureV qcX4_44 r1.obj rfl rfl (S_markAt r1 hjl) rfl rfl rfl rfl dX4_copyFrom_27 ?_
      refine e_doesV qcX4_50 r3.obj rfl rfl (S_append r3 (by omega) hb.1 hb.2.1 hb.2.2) rfl rfl rfl rfl dX4_copyFrom_30 ?_
      intro v h2 q2
      obtain ⟨rfl, g2, fr2⟩ := q2
      refine e_iinc dX4_copyFrom_33 rfl ?_
      refine e_goto (tgt := 6) dX4_copyFrom_36 rfl ?_
      refine e_loc [(2, .int (iN (j + 1 : Nat))), (0, .ref r), (1, .ref r2)] ⟨rfl, rfl, rfl, trivial⟩ (ih (j + 1) h2 (by omega) (r1.off fr2 (by omega)) ?_ (fr.tr fr2))
      rw [← List.take_append_getElem hjl]
      have e9 : (pX L2 j, pY L2 j, pM L2 j) = L2[j] := by unfold pX pY pM; rw [getD_at hjl]
      rw [← e9]
      exact g2
set_option maxRecDepth 20000 in
theorem S_copyFrom {N2 r2 : Nat} {L2 : PL} (hr : rowAt G N L r h) (hr2 : rowAt G N2 L2 r2 h) (hd : r + 4 ≤ r2 ∨ r2 + 4 ≤ r) (hlen : L2.length ≤ N) : Does G mX4_copyFrom [.ref r, .ref r2] h (fun v h1 => v = none ∧ rowAt G N L2 r h1 ∧ g_fr r 4 h h1) := by
  intro z
  refine run_of rfl plX4 rfl ?_
  refine e_aload_n dX4_copyFrom_0 rfl ?_
  refine e_doesV qcX4_47 hr.obj rfl rfl (S_reset hr) rfl rfl rfl rfl dX4_copyFrom_1 ?_
  intro v h1 q1
  obtain ⟨rfl, g1, fr1⟩ := q1
  refine e_iconst dX4_copyFrom_4 ?_
  refine e_istore_n dX4_copyFrom_5 rfl ?_
  exact e_loc [(2, .int (iN (0 : Nat))), (0, .ref r), (1, .ref r2)] ⟨rfl, rfl, rfl, trivial⟩ (cpy_loop hd hlen L2.length 0 h1 (by omega) (hr2.off fr1 (by omega)) (by rw [List.take_zero]; exact g1) fr1)
end PROWS2
