/-! Shapes: width, closing, open stretches -/
theorem bC_f {p : Prop} (h : ¬ p) : bC p = 0 := @bP_f p (Classical.propDecidable p) h
theorem bC_t {p : Prop} (h : p) : bC p = 1 := @bP_t p (Classical.propDecidable p) h
/-- corners as near as the points and the sums of hulls are -/
abbrev okS (L : PL) : Prop := ∀ i, i < L.length → (-400 ≤ pX L i ∧ pX L i ≤ 400) ∧ (-400 ≤ pY L i ∧ pY L i ≤ 400)
theorem tw3_s {L : PL} (h : okS L) {a b c : Nat} (ha : a < L.length) (hb : b < L.length) (hc : c < L.length) : -1280000 ≤ tw3 L a b L c ∧ tw3 L a b L c ≤ 1280000 := by
  have u1 := h a ha
  have u2 := h b hb
  have u3 := h c hc
  have q1 := mul_bd (a := pX L b - pX L a) (b := pY L c - pY L a) (A := 800) (B := 800) ⟨by omega, by omega⟩ ⟨by omega, by omega⟩
  have q2 := mul_bd (a := pY L b - pY L a) (b := pX L c - pX L a) (A := 800) (B := 800) ⟨by omega, by omega⟩ ⟨by omega, by omega⟩
  unfold tw3 tw
  omega
abbrev sqR (L : PL) (i : Nat) : Int := rch L i L.length
abbrev sqL (L : PL) (i : Nat) : Int := rnE L i * rnE L i + rsE L i * rsE L i
/-- the least squared reach over the squared length, of the first n edges -/
def sqw (L : PL) : Nat → Int × Int
  | 0 => (0, 0)
  | n + 1 => if n = 0 ∨ sqR L n * sqR L n * (sqw L n).2 < (sqw L n).1 * sqL L n then (sqR L n * sqR L n, sqL L n) else sqw L n
abbrev sqC (L : PL) (n : Nat) : Prop := n = 0 ∨ sqR L n * sqR L n * (sqw L n).2 < (sqw L n).1 * sqL L n
theorem sqw_t {L : PL} {n : Nat} (h : sqC L n) : sqw L (n + 1) = (sqR L n * sqR L n, sqL L n) := if_pos h
theorem sqw_n {L : PL} {n : Nat} (h : ¬ sqC L n) : sqw L (n + 1) = sqw L n := if_neg h
theorem sqR_bd {L : PL} (h : okS L) {i : Nat} (hi : i < L.length) : 0 ≤ sqR L i ∧ sqR L i ≤ 1280000 := rch_bd (by omega) i (fun j hj => (tw3_s h hi (nxt_lt hi) hj).2)
theorem sqL_bd {L : PL} (h : okS L) {i : Nat} (hi : i < L.length) : 0 ≤ sqL L i ∧ sqL L i ≤ 1280000 := by
  have u1 := h i hi
  have u2 := h _ (nxt_lt hi)
  have v1 : -800 ≤ rnE L i ∧ rnE L i ≤ 800 := by show -800 ≤ _ - _ ∧ _ - _ ≤ 800; omega
  have v2 : -800 ≤ rsE L i ∧ rsE L i ≤ 800 := by show -800 ≤ _ - _ ∧ _ - _ ≤ 800; omega
  have m1 := mul_bd v1 v1
  have m2 := mul_bd v2 v2
  have n1 : 0 ≤ rnE L i * rnE L i := by rcases Int.le_total 0 (rnE L i) with w | w; exact Int.mul_nonneg w w; exact Int.mul_nonneg_of_nonpos_of_nonpos w w
  have n2 : 0 ≤ rsE L i * rsE L i := by rcases Int.le_total 0 (rsE L i) with w | w; exact Int.mul_nonneg w w; exact Int.mul_nonneg_of_nonpos_of_nonpos w w
  show 0 ≤ _ + _ ∧ _ + _ ≤ 1280000
  omega
theorem sqR2_bd {L : PL} (h : okS L) {i : Nat} (hi : i < L.length) : 0 ≤ sqR L i * sqR L i ∧ sqR L i * sqR L i ≤ 1638400000000 := by
  have u := sqR_bd h hi
  have m := mul_bd (a := sqR L i) (b := sqR L i) (A := 1280000) (B := 1280000) ⟨by omega, u.2⟩ ⟨by omega, u.2⟩
  exact ⟨Int.mul_nonneg u.1 u.1, by omega⟩
theorem sqw_bd {L : PL} (h : okS L) : ∀ n, n ≤ L.length → (0 ≤ (sqw L n).1 ∧ (sqw L n).1 ≤ 1638400000000) ∧ 0 ≤ (sqw L n).2 ∧ (sqw L n).2 ≤ 1280000
  | 0, _ => by unfold sqw; exact ⟨by omega, by omega⟩
  | n + 1, hn => by
    by_cases c : sqC L n
    · rw [sqw_t c]; exact ⟨sqR2_bd h (by omega), sqL_bd h (by omega)⟩
    · rw [sqw_n c]; exact sqw_bd h n (by omega)
def sqD (L : PL) : Nat := Nat.gcd (sqw L L.length).1.natAbs (sqw L L.length).2.natAbs
/-- a number of the squared width -/
def sqW (L : PL) (u : Prop) [Decidable u] : Int := if (sqD L : Int) = 0 then 0 else if u then (sqw L L.length).2.tdiv (sqD L) else (sqw L L.length).1.tdiv (sqD L)
theorem sq_ex {L : PL} (h : okS L) (u : Prop) [Decidable u] : ∃ D : Nat, Nat.gcd (sqw L L.length).1.natAbs (sqw L L.length).2.natAbs = D ∧ D ≤ 1638400000000 ∧ sqW L u = if (D : Int) = 0 then 0 else if u then (sqw L L.length).2.tdiv D else (sqw L L.length).1.tdiv D := by
  have w := sqw_bd h L.length (Nat.le_refl _)
  refine ⟨_, rfl, ?_, rfl⟩
  rcases Nat.eq_zero_or_pos (sqw L L.length).1.natAbs with q | q
  · rw [q, Nat.gcd_zero_left]
    omega
  · have := Nat.gcd_le_left (sqw L L.length).2.natAbs q
    omega
section PSHAPES3
variable {G : g_X} {N : Nat} {L : PL} {r : Nat} {h : g_hp}
theorem S_cdD {a b : Int} {D : Nat} (hD : Nat.gcd a.natAbs b.natAbs = D) (ha : -(2 ^ 62 - 1) ≤ a ∧ a ≤ 2 ^ 62 - 1) (hb : -(2 ^ 62 - 1) ≤ b ∧ b ≤ 2 ^ 62 - 1) : Pure G mX3_commonDivisor [.long (lI a), .long (lI b)] h (.long (lI D)) := by
  rw [← hD]
  exact S_commonDivisor ha hb
set_option maxRecDepth 20000 in
theorem sq_loop {z : Option Nat} (hr : rowAt G N L r h) (hS : okS L) {u : Prop} [Decidable u] : ∀ (n i : Nat), i + n = L.length → Ev (g_B G mX5_squaredWidth 0 0 (fun o z1 h1 => o = .inl (some (.long (lI (sqW L u)))) ∧ z1 = z ∧ h1 = h)) 0 0 z h 8 [(6, .int (iN i)), (2, .long (lI (sqw L i).1)), (4, .long (lI (sqw L i).2)), (0, .ref r), (1, .int (iN (bP u)))] [] := by
  have h9 := hr.1
  have h8 := hr.2.1
  intro n
  induction n with
  | zero =>
    intro i hin
    have e9 : i = L.length := by omega
    subst e9
    have u7 := sqw_bd hS L.length (Nat.le_refl _)
    obtain ⟨D, hD, u8, hW⟩ := sq_ex hS u
    refine e_iload dX5_squaredWidth_8 rfl ?_
    refine e_aload_n dX5_squaredWidth_10 rfl ?_
    refine e_pureV qcX5_25 hr.obj rfl rfl (S_size hr) rfl rfl rfl rfl dX5_squaredWidth_11 ?_
    refine e_icmp_ge (tgt := 93) ⟨by omega, by omega⟩ ⟨by omega, by omega⟩ dX5_squaredWidth_14 rfl (fun c_14 => ?_) (fun c_14 => absurd (Int.le_refl _) c_14)
    refine e_lload_n dX5_squaredWidth_93 rfl ?_
    refine e_lload dX5_squaredWidth_94 rfl ?_
    refine e_pureS qcX5_38 (S_cdD hD (a := (sqw L L.length).1) (b := (sqw L L.length).2) ⟨by omega, by omega⟩ ⟨by omega, by omega⟩) rfl rfl rfl rfl dX5_squaredWidth_96 ?_
    refine e_lstore dX5_squaredWidth_99 rfl ?_
    refine e_lload dX5_squaredWidth_101 rfl ?_
    refine e_lconst dX5_squaredWidth_103 ?_
    refine e_lif_ne (tgt := 110) ⟨by omega, by omega⟩ r64_0 dX5_squaredWidth_104 dX5_squaredWidth_105 rfl (fun c_104 => ?_) (fun c_104 => ?_)
    · refine e_iload_n dX5_squaredWidth_110 rfl ?_
      refine e_ifP_eq (tgt := 122) dX5_squaredWidth_111 rfl (fun c_111 => ?_) (fun c_111 => ?_)
      · refine e_lload_n dX5_squaredWidth_122 rfl ?_
        refine e_lload dX5_squaredWidth_123 rfl ?_
        refine e_ldiv ⟨by omega, by omega⟩ ⟨by omega, by omega⟩ c_104 dX5_squaredWidth_125 ?_
        refine e_lret rfl dX5_squaredWidth_126 (by decide) (by decide) ?_
        exact ⟨by first | rw [hW, if_neg (show ¬ (D : Int) = 0 from c_104), if_pos c_111] | rw [hW, if_neg (show ¬ (D : Int) = 0 from c_104), if_neg c_111], rfl, rfl⟩
      · refine e_lload dX5_squaredWidth_114 rfl ?_
        refine e_lload dX5_squaredWidth_116 rfl ?_
        refine e_ldiv ⟨by omega, by omega⟩ ⟨by omega, by omega⟩ c_104 dX5_squaredWidth_118 ?_
        refine e_goto (tgt := 126) dX5_squaredWidth_119 rfl ?_
        refine e_lret rfl dX5_squaredWidth_126 (by decide) (by decide) ?_
        exact ⟨by first | rw [hW, if_neg (show ¬ (D : Int) = 0 from c_104), if_pos c_111] | rw [hW, if_neg (show ¬ (D : Int) = 0 from c_104), if_neg c_111], rfl, rfl⟩
    · refine e_lconst dX5_squaredWidth_108 ?_
      refine e_lret rfl dX5_squaredWidth_109 (by decide) (by decide) ?_
      exact ⟨by first | (rw [hW, if_pos (show (D : Int) = 0 from Classical.not_not.mp c_104)]; rfl) | rw [hW, if_pos (show (D : Int) = 0 from Classical.not_not.mp c_104)], rfl, rfl⟩
  | succ n ih =>
    intro i hin
    have hi : i < L.length := by omega
    have w1 := hr.2.2.1.at hi
    have w2 := hr.2.2.1.nx hi
    have s1 := hS i hi
    have s2 := hS _ (nxt_lt hi)
    have v1 : -800 ≤ rnE L i ∧ rnE L i ≤ 800 := by show -800 ≤ _ - _ ∧ _ - _ ≤ 800; omega
    have v2 : -800 ≤ rsE L i ∧ rsE L i ≤ 800 := by show -800 ≤ _ - _ ∧ _ - _ ≤ 800; omega
    have m1 := mul_bd v1 v1
    have m2 := mul_bd v2 v2
    have a1 := sqR_bd hS hi
    have a2 := sqL_bd hS hi
    have a3 := sqR2_bd hS hi
    have a4 := sqw_bd hS i (by omega)
    have m3 := mul_bd (a := sqR L i * sqR L i) (b := (sqw L i).2) (A := 1638400000000) (B := 1280000) ⟨by omega, a3.2⟩ ⟨by omega, a4.2.2⟩
    have m4 := mul_bd (a := (sqw L i).1) (b := sqL L i) (A := 1638400000000) (B := 1280000) ⟨by omega, a4.1.2⟩ ⟨by omega, a2.2⟩
    refine e_iload dX5_squaredWidth_8 rfl ?_
    refine e_aload_n dX5_squaredWidth_10 rfl ?_
    refine e_pureV qcX5_25 hr.obj rfl rfl (S_size hr) rfl rfl rfl rfl dX5_squaredWidth_11 ?_
    refine e_icmp_ge (tgt := 93) ⟨by omega, by omega⟩ ⟨by omega, by omega⟩ dX5_squaredWidth_14 rfl (fun c_14 => ?_) (fun c_14 => ?_)
    · exact absurd c_14 (by omega)
    · refine e_aload_n dX5_squaredWidth_17 rfl ?_
      refine e_iload dX5_squaredWidth_18 rfl ?_
      refine e_pureS qcX5_29 (S_runOf hr hi) rfl rfl rfl rfl dX5_squaredWidth_20 ?_
      refine e_i2l ⟨by omega, by omega⟩ dX5_squaredWidth_23 ?_
      refine e_lstore dX5_squaredWidth_24 rfl ?_
      refine e_aload_n dX5_squaredWidth_26 rfl ?_
      refine e_iload dX5_squaredWidth_27 rfl ?_
      refine e_pureS qcX5_35 (S_riseOf hr hi) rfl rfl rfl rfl dX5_squaredWidth_29 ?_
      refine e_i2l ⟨by omega, by omega⟩ dX5_squaredWidth_32 ?_
      refine e_lstore dX5_squaredWidth_33 rfl ?_
      refine e_lload dX5_squaredWidth_35 rfl ?_
      refine e_lload dX5_squaredWidth_37 rfl ?_
      refine e_lmul dX5_squaredWidth_39 ?_
      refine e_lload dX5_squaredWidth_40 rfl ?_
      refine e_lload dX5_squaredWidth_42 rfl ?_
      refine e_lmul dX5_squaredWidth_44 ?_
      refine e_ladd dX5_squaredWidth_45 ?_
      refine e_lstore dX5_squaredWidth_46 rfl ?_
      refine e_aload_n dX5_squaredWidth_48 rfl ?_
      refine e_iload dX5_squaredWidth_49 rfl ?_
      refine e_pureS qcX5_61 (S_reachFrom hr hi) rfl rfl rfl rfl dX5_squaredWidth_51 ?_
      refine e_lstore dX5_squaredWidth_54 rfl ?_
      refine e_iload dX5_squaredWidth_56 rfl ?_
      refine e_if_eq (tgt := 77) ⟨by omega, by omega⟩ dX5_squaredWidth_58 rfl (fun c_58 => ?_) (fun c_58 => ?_)
      · refine e_lload dX5_squaredWidth_77 rfl ?_
        refine e_lload dX5_squaredWidth_79 rfl ?_
        refine e_lmul dX5_squaredWidth_81 ?_
        refine e_lstore_n dX5_squaredWidth_82 rfl ?_
        refine e_lload dX5_squaredWidth_83 rfl ?_
        refine e_lstore dX5_squaredWidth_85 rfl ?_
        refine e_iinc dX5_squaredWidth_87 rfl ?_
        refine e_goto (tgt := 8) dX5_squaredWidth_90 rfl ?_
        refine e_loc [(6, .int (iN (i + 1 : Nat))), (2, .long (lI (sqw L (i + 1)).1)), (4, .long (lI (sqw L (i + 1)).2)), (0, .ref r), (1, .int (iN (bP u)))] ?_ (ih (i + 1) (by omega))
        first | (rw [sqw_t (Or.inl (by omega))]; exact ⟨rfl, rfl, rfl, rfl, rfl, trivial⟩) | (rw [sqw_t (Or.inr (by omega))]; exact ⟨rfl, rfl, rfl, rfl, rfl, trivial⟩) | (rw [sqw_n (fun w => by rcases w with w | w <;> omega)]; exact ⟨rfl, rfl, rfl, rfl, rfl, trivial⟩)
      · refine e_lload dX5_squaredWidth_61 rfl ?_
        refine e_lload dX5_squaredWidth_63 rfl ?_
        refine e_lmul dX5_squaredWidth_65 ?_
        refine e_lload dX5_squaredWidth_66 rfl ?_
        refine e_lmul dX5_squaredWidth_68 ?_
        refine e_lload_n dX5_squaredWidth_69 rfl ?_
        refine e_lload dX5_squaredWidth_70 rfl ?_
        refine e_lmul dX5_squaredWidth_72 ?_
        refine e_lif_ge (tgt := 87) (x := sqR L i * sqR L i * (sqw L i).2) (y := (sqw L i).1 * sqL L i) ⟨by omega, by omega⟩ ⟨by omega, by omega⟩ dX5_squaredWidth_73 dX5_squaredWidth_74 rfl (fun c_73 => ?_) (fun c_73 => ?_)
        · refine e_iinc dX5_squaredWidth_87 rfl ?_
          refine e_goto (tgt := 8) dX5_squaredWidth_90 rfl ?_
          refine e_loc [(6, .int (iN (i + 1 : Nat))), (2, .long (lI (sqw L (i + 1)).1)), (4, .long (lI (sqw L (i + 1)).2)), (0, .ref r), (1, .int (iN (bP u)))] ?_ (ih (i + 1) (by omega))
          first | (rw [sqw_t (Or.inl (by omega))]; exact ⟨rfl, rfl, rfl, rfl, rfl, trivial⟩) | (rw [sqw_t (Or.inr (by omega))]; exact ⟨rfl, rfl, rfl, rfl, rfl, trivial⟩) | (rw [sqw_n (fun w => by rcases w with w | w <;> omega)]; exact ⟨rfl, rfl, rfl, rfl, rfl, trivial⟩)
        · refine e_lload dX5_squaredWidth_77 rfl ?_
          refine e_lload dX5_squaredWidth_79 rfl ?_
          refine e_lmul dX5_squaredWidth_81 ?_
          refine e_lstore_n dX5_squaredWidth_82 rfl ?_
          refine e_lload dX5_squaredWidth_83 rfl ?_
          refine e_lstore dX5_squaredWidth_85 rfl ?_
          refine e_iinc dX5_squaredWidth_87 rfl ?_
          refine e_goto (tgt := 8) dX5_squaredWidth_90 rfl ?_
          refine e_loc [(6, .int (iN (i + 1 : Nat))), (2, .long (lI (sqw L (i + 1)).1)), (4, .long (lI (sqw L (i + 1)).2)), (0, .ref r), (1, .int (iN (bP u)))] ?_ (ih (i + 1) (by omega))
          first | (rw [sqw_t (Or.inl (by omega))]; exact ⟨rfl, rfl, rfl, rfl, rfl, trivial⟩) | (rw [sqw_t (Or.inr (by omega))]; exact ⟨rfl, rfl, rfl, rfl, rfl, trivial⟩) | (rw [sqw_n (fun w => by rcases w with w | w <;> omega)]; exact ⟨rfl, rfl, rfl, rfl, rfl, trivial⟩)
set_option maxRecDepth 20000 in
theorem S_squaredWidth (hr : rowAt G N L r h) (hS : okS L) {u : Prop} [Decidable u] : Pure G mX5_squaredWidth [.ref r, .int (iN (bP u))] h (.long (lI (sqW L u))) := by
  intro z
  refine run_of rfl plX5 rfl ?_
  refine e_lconst dX5_squaredWidth_0 ?_
  refine e_lstore_n dX5_squaredWidth_1 rfl ?_
  refine e_lconst dX5_squaredWidth_2 ?_
  refine e_lstore dX5_squaredWidth_3 rfl ?_
  refine e_iconst dX5_squaredWidth_5 ?_
  refine e_istore dX5_squaredWidth_6 rfl ?_
  exact e_loc [(6, .int (iN (0 : Nat))), (2, .long (lI (sqw L 0).1)), (4, .long (lI (sqw L 0).2)), (0, .ref r), (1, .int (iN (bP u)))] ⟨rfl, rfl, rfl, rfl, rfl, trivial⟩ (sq_loop hr hS L.length 0 (by omega))
def crs (L : PL) (i j : Nat) : Prop := ¬ nxt L.length i = j ∧ ¬ nxt L.length j = i ∧ meet3 L i (nxt L.length i) L j (nxt L.length j)
/-- a simple polygon -/
def closes (L : PL) : Prop := 3 ≤ L.length ∧ ∀ i, i < L.length → ¬ fold3 L i ∧ ∀ j, i < j → j < L.length → ¬ crs L i j
set_option maxRecDepth 20000 in
theorem cs_inner {z : Option Nat} (hr : rowAt G N L r h) {i : Nat} (hi : i < L.length) (k : (∀ j, i < j → j < L.length → ¬ crs L i j) → Ev (g_B G mX5_closesSimply 0 0 (fun o z1 h1 => o = .inl (some (.int (iN (bC (closes L))))) ∧ z1 = z ∧ h1 = h)) 0 0 z h 98 [(1, .int (iN i)), (0, .ref r)] []) : ∀ (n j : Nat), j + n = L.length → i < j → (∀ b, i < b → b < j → ¬ crs L i b) → Ev (g_B G mX5_closesSimply 0 0 (fun o z1 h1 => o = .inl (some (.int (iN (bC (closes L))))) ∧ z1 = z ∧ h1 = h)) 0 0 z h 34 [(2, .int (iN j)), (1, .int (iN i)), (0, .ref r)] [] := by
  have h9 := hr.1
  have h8 := hr.2.1
  have hni := nxt_lt hi
  intro n
  induction n with
  | zero =>
    intro j hjn hij hno
    have e9 : j = L.length := by omega
    subst e9
    refine e_iload_n dX5_closesSimply_34 rfl ?_
    refine e_aload_n dX5_closesSimply_35 rfl ?_
    refine e_pureV qcX5_25 hr.obj rfl rfl (S_size hr) rfl rfl rfl rfl dX5_closesSimply_36 ?_
    refine e_icmp_ge (tgt := 98) ⟨by omega, by omega⟩ ⟨by omega, by omega⟩ dX5_closesSimply_39 rfl (fun c_39 => ?_) (fun c_39 => absurd (Int.le_refl _) c_39)
    exact e_loc [(1, .int (iN i)), (0, .ref r)] ⟨rfl, rfl, trivial⟩ (k hno)
  | succ n ih =>
    intro j hjn hij hno
    have hj : j < L.length := by omega
    have hnj := nxt_lt hj
    refine e_iload_n dX5_closesSimply_34 rfl ?_
    refine e_aload_n dX5_closesSimply_35 rfl ?_
    refine e_pureV qcX5_25 hr.obj rfl rfl (S_size hr) rfl rfl rfl rfl dX5_closesSimply_36 ?_
    refine e_icmp_ge (tgt := 98) ⟨by omega, by omega⟩ ⟨by omega, by omega⟩ dX5_closesSimply_39 rfl (fun c_39 => ?_) (fun c_39 => ?_)
    · exact absurd c_39 (by omega)
    · refine e_aload_n dX5_closesSimply_42 rfl ?_
      refine e_iload_n dX5_closesSimply_43 rfl ?_
      refine e_pureV qcX5_7 hr.obj rfl rfl (S_next hr hi) rfl rfl rfl rfl dX5_closesSimply_44 ?_
      refine e_iload_n dX5_closesSimply_47 rfl ?_
      refine e_icmp_eq (tgt := 60) ⟨by omega, by omega⟩ ⟨by omega, by omega⟩ dX5_closesSimply_48 rfl (fun c_48 => ?_) (fun c_48 => ?_)
      · have k1 : nxt L.length i = j := by omega
        refine e_iconst dX5_closesSimply_60 ?_
        refine e_goto (tgt := 65) dX5_closesSimply_61 rfl ?_
        refine e_istore_n dX5_closesSimply_65 rfl ?_
        refine e_iload_n dX5_closesSimply_66 rfl ?_
        refine e_if_ne (tgt := 92) ⟨by omega, by omega⟩ dX5_closesSimply_67 rfl (fun _ => ?_) (fun c => absurd (show (1 : Int) ≠ 0 by decide) c)
        refine e_iinc dX5_closesSimply_92 rfl ?_
        refine e_goto (tgt := 34) dX5_closesSimply_95 rfl ?_
        exact e_loc [(2, .int (iN (j + 1 : Nat))), (1, .int (iN i)), (0, .ref r)] ⟨rfl, rfl, rfl, trivial⟩ (ih (j + 1) (by omega) (by omega) (fun b hb1 hb2 => by
          by_cases e : b = j
          · subst e
            first | exact fun w => w.1 k1 | exact fun w => w.2.1 k2 | exact k3
          · exact hno b hb1 (by omega)))
      · have k1 : ¬ nxt L.length i = j := by omega
        refine e_aload_n dX5_closesSimply_51 rfl ?_
        refine e_iload_n dX5_closesSimply_52 rfl ?_
        refine e_pureV qcX5_7 hr.obj rfl rfl (S_next hr hj) rfl rfl rfl rfl dX5_closesSimply_53 ?_
        refine e_iload_n dX5_closesSimply_56 rfl ?_
        refine e_icmp_ne (tgt := 64) ⟨by omega, by omega⟩ ⟨by omega, by omega⟩ dX5_closesSimply_57 rfl (fun c_57 => ?_) (fun c_57 => ?_)
        · have k2 : ¬ nxt L.length j = i := by omega
          refine e_iconst dX5_closesSimply_64 ?_
          refine e_istore_n dX5_closesSimply_65 rfl ?_
          refine e_iload_n dX5_closesSimply_66 rfl ?_
          refine e_if_ne (tgt := 92) ⟨by omega, by omega⟩ dX5_closesSimply_67 rfl (fun c => absurd rfl c) (fun _ => ?_)
          refine e_aload_n dX5_closesSimply_70 rfl ?_
          refine e_iload_n dX5_closesSimply_71 rfl ?_
          refine e_aload_n dX5_closesSimply_72 rfl ?_
          refine e_iload_n dX5_closesSimply_73 rfl ?_
          refine e_pureV qcX5_7 hr.obj rfl rfl (S_next hr hi) rfl rfl rfl rfl dX5_closesSimply_74 ?_
          refine e_aload_n dX5_closesSimply_77 rfl ?_
          refine e_iload_n dX5_closesSimply_78 rfl ?_
          refine e_aload_n dX5_closesSimply_79 rfl ?_
          refine e_iload_n dX5_closesSimply_80 rfl ?_
          refine e_pureV qcX5_7 hr.obj rfl rfl (S_next hr hj) rfl rfl rfl rfl dX5_closesSimply_81 ?_
          refine e_pureS qcX5_76 (S_meet hr hr hi hni hj hnj) rfl rfl rfl rfl dX5_closesSimply_84 ?_
          refine e_ifP_eq (tgt := 92) dX5_closesSimply_87 rfl (fun c_87 => ?_) (fun c_87 => ?_)
          · have k3 : ¬ crs L i j := fun w => c_87 w.2.2
            clear c_87
            refine e_iinc dX5_closesSimply_92 rfl ?_
            refine e_goto (tgt := 34) dX5_closesSimply_95 rfl ?_
            exact e_loc [(2, .int (iN (j + 1 : Nat))), (1, .int (iN i)), (0, .ref r)] ⟨rfl, rfl, rfl, trivial⟩ (ih (j + 1) (by omega) (by omega) (fun b hb1 hb2 => by
              by_cases e : b = j
              · subst e
                first | exact fun w => w.1 k1 | exact fun w => w.2.1 k2 | exact k3
              · exact hno b hb1 (by omega)))
          · refine e_iconst dX5_closesSimply_90 ?_
            refine e_zret rfl (by first | exact Or.inl rfl | exact Or.inr rfl | exact bP_01 _) dX5_closesSimply_91 (by decide) (by decide) ?_
            exact ⟨by rw [bC_f (p := closes L) (fun w => (w.2 i hi).2 j hij hj ⟨k1, k2, c_87⟩)], rfl, rfl⟩
        · have k2 : nxt L.length j = i := by omega
          refine e_iconst dX5_closesSimply_60 ?_
          refine e_goto (tgt := 65) dX5_closesSimply_61 rfl ?_
          refine e_istore_n dX5_closesSimply_65 rfl ?_
          refine e_iload_n dX5_closesSimply_66 rfl ?_
          refine e_if_ne (tgt := 92) ⟨by omega, by omega⟩ dX5_closesSimply_67 rfl (fun _ => ?_) (fun c => absurd (show (1 : Int) ≠ 0 by decide) c)
          refine e_iinc dX5_closesSimply_92 rfl ?_
          refine e_goto (tgt := 34) dX5_closesSimply_95 rfl ?_
          exact e_loc [(2, .int (iN (j + 1 : Nat))), (1, .int (iN i)), (0, .ref r)] ⟨rfl, rfl, rfl, trivial⟩ (ih (j + 1) (by omega) (by omega) (fun b hb1 hb2 => by
            by_cases e : b = j
            · subst e
              first | exact fun w => w.1 k1 | exact fun w => w.2.1 k2 | exact k3
            · exact hno b hb1 (by omega)))
set_option maxRecDepth 20000 in
theorem cs_loop {z : Option Nat} (hr : rowAt G N L r h) (h3 : 3 ≤ L.length) : ∀ (n i : Nat), i + n = L.length → (∀ a, a < i → ¬ fold3 L a ∧ ∀ j, a < j → j < L.length → ¬ crs L a j) → Ev (g_B G mX5_closesSimply 0 0 (fun o z1 h1 => o = .inl (some (.int (iN (bC (closes L))))) ∧ z1 = z ∧ h1 = h)) 0 0 z h 12 [(1, .int (iN i)), (0, .ref r)] [] := by
  have h9 := hr.1
  have h8 := hr.2.1
  intro n
  induction n with
  | zero =>
    intro i hin hno
    have e9 : i = L.length := by omega
    subst e9
    refine e_iload_n dX5_closesSimply_12 rfl ?_
    refine e_aload_n dX5_closesSimply_13 rfl ?_
    refine e_pureV qcX5_25 hr.obj rfl rfl (S_size hr) rfl rfl rfl rfl dX5_closesSimply_14 ?_
    refine e_icmp_ge (tgt := 104) ⟨by omega, by omega⟩ ⟨by omega, by omega⟩ dX5_closesSimply_17 rfl (fun c_17 => ?_) (fun c_17 => absurd (Int.le_refl _) c_17)
    refine e_iconst dX5_closesSimply_104 ?_
    refine e_zret rfl (by first | exact Or.inl rfl | exact Or.inr rfl | exact bP_01 _) dX5_closesSimply_105 (by decide) (by decide) ?_
    exact ⟨by rw [bC_t (p := closes L) ⟨h3, hno⟩], rfl, rfl⟩
  | succ n ih =>
    intro i hin hno
    have hi : i < L.length := by omega
    refine e_iload_n dX5_closesSimply_12 rfl ?_
    refine e_aload_n dX5_closesSimply_13 rfl ?_
    refine e_pureV qcX5_25 hr.obj rfl rfl (S_size hr) rfl rfl rfl rfl dX5_closesSimply_14 ?_
    refine e_icmp_ge (tgt := 104) ⟨by omega, by omega⟩ ⟨by omega, by omega⟩ dX5_closesSimply_17 rfl (fun c_17 => ?_) (fun c_17 => ?_)
    · exact absurd c_17 (by omega)
    · refine e_aload_n dX5_closesSimply_20 rfl ?_
      refine e_iload_n dX5_closesSimply_21 rfl ?_
      refine e_pureS qcX5_72 (S_foldsBack hr hi) rfl rfl rfl rfl dX5_closesSimply_22 ?_
      refine e_ifP_eq (tgt := 30) dX5_closesSimply_25 rfl (fun c_25 => ?_) (fun c_25 => ?_)
      · refine e_iload_n dX5_closesSimply_30 rfl ?_
        refine e_iconst dX5_closesSimply_31 ?_
        refine e_iadd dX5_closesSimply_32 ?_
        refine e_istore_n dX5_closesSimply_33 rfl ?_
        refine e_loc [(2, .int (iN (i + 1 : Nat))), (1, .int (iN i)), (0, .ref r)] ⟨rfl, rfl, rfl, trivial⟩ (cs_inner hr hi (fun hin2 => ?_) (L.length - (i + 1)) (i + 1) (by omega) (by omega) (fun b hb1 hb2 => absurd hb1 (by omega)))
        refine e_iinc dX5_closesSimply_98 rfl ?_
        refine e_goto (tgt := 12) dX5_closesSimply_101 rfl ?_
        exact e_loc [(1, .int (iN (i + 1 : Nat))), (0, .ref r)] ⟨rfl, rfl, trivial⟩ (ih (i + 1) (by omega) (fun a ha => by
          by_cases e : a = i
          · subst e
            exact ⟨c_25, hin2⟩
          · exact hno a (by omega)))
      · refine e_iconst dX5_closesSimply_28 ?_
        refine e_zret rfl (by first | exact Or.inl rfl | exact Or.inr rfl | exact bP_01 _) dX5_closesSimply_29 (by decide) (by decide) ?_
        exact ⟨by rw [bC_f (p := closes L) (fun w => (w.2 i hi).1 c_25)], rfl, rfl⟩
set_option maxRecDepth 20000 in
theorem S_closesSimply (hr : rowAt G N L r h) : Pure G mX5_closesSimply [.ref r] h (.int (iN (bC (closes L)))) := by
  intro z
  refine run_of rfl plX5 rfl ?_
  have h9 := hr.1
  have h8 := hr.2.1
  refine e_aload_n dX5_closesSimply_0 rfl ?_
  refine e_pureV qcX5_25 hr.obj rfl rfl (S_size hr) rfl rfl rfl rfl dX5_closesSimply_1 ?_
  refine e_iconst dX5_closesSimply_4 ?_
  refine e_icmp_ge (tgt := 10) ⟨by omega, by omega⟩ ⟨by omega, by omega⟩ dX5_closesSimply_5 rfl (fun c_5 => ?_) (fun c_5 => ?_)
  · refine e_iconst dX5_closesSimply_10 ?_
    refine e_istore_n dX5_closesSimply_11 rfl ?_
    exact e_loc [(1, .int (iN (0 : Nat))), (0, .ref r)] ⟨rfl, rfl, trivial⟩ (cs_loop hr (by omega) L.length 0 (by omega) (fun a ha => absurd ha (by omega)))
  · refine e_iconst dX5_closesSimply_8 ?_
    refine e_zret rfl (by first | exact Or.inl rfl | exact Or.inr rfl | exact bP_01 _) dX5_closesSimply_9 (by decide) (by decide) ?_
    exact ⟨by rw [bC_f (p := closes L) (fun w => absurd w.1 (by omega))], rfl, rfl⟩
/-- no place of the stretch is outside -/
def opn (L : PL) (a b : Nat) : Prop := (∀ i, i < L.length → ¬ pass3 L a b L i (nxt L.length i)) ∧ ∀ i, i < L.length → on3 L a b L i → ∀ j, i < j → j < L.length → on3 L a b L j → ¬ wM L i j < 0
set_option maxRecDepth 20000 in
theorem ob_inner {z : Option Nat} (hr : rowAt G N L r h) {a b : Nat} (ha : a < L.length) (hb : b < L.length) {i : Nat} (hi : i < L.length) (ho : on3 L a b L i) (k : (∀ j, i < j → j < L.length → on3 L a b L j → ¬ wM L i j < 0) → Ev (g_B G mX5_isOpenBetween 0 0 (fun o z1 h1 => o = .inl (some (.int (iN (bC (opn L a b))))) ∧ z1 = z ∧ h1 = h)) 0 0 z h 102 [(3, .int (iN i)), (0, .ref r), (1, .int (iN a)), (2, .int (iN b))] []) : ∀ (n j : Nat), j + n = L.length → i < j → (∀ b9, i < b9 → b9 < j → on3 L a b L b9 → ¬ wM L i b9 < 0) → Ev (g_B G mX5_isOpenBetween 0 0 (fun o z1 h1 => o = .inl (some (.int (iN (bC (opn L a b))))) ∧ z1 = z ∧ h1 = h)) 0 0 z h 63 [(4, .int (iN j)), (3, .int (iN i)), (0, .ref r), (1, .int (iN a)), (2, .int (iN b))] [] := by
  have h9 := hr.1
  have h8 := hr.2.1
  intro n
  induction n with
  | zero =>
    intro j hjn hij hno
    have e9 : j = L.length := by omega
    subst e9
    refine e_iload dX5_isOpenBetween_63 rfl ?_
    refine e_aload_n dX5_isOpenBetween_65 rfl ?_
    refine e_pureV qcX5_25 hr.obj rfl rfl (S_size hr) rfl rfl rfl rfl dX5_isOpenBetween_66 ?_
    refine e_icmp_ge (tgt := 102) ⟨by omega, by omega⟩ ⟨by omega, by omega⟩ dX5_isOpenBetween_69 rfl (fun c_69 => ?_) (fun c_69 => absurd (Int.le_refl _) c_69)
    exact e_loc [(3, .int (iN i)), (0, .ref r), (1, .int (iN a)), (2, .int (iN b))] ⟨rfl, rfl, rfl, rfl, trivial⟩ (k hno)
  | succ n ih =>
    intro j hjn hij hno
    have hj : j < L.length := by omega
    have hw : -1 ≤ wM L i j ∧ wM L i j ≤ 1 := by rcases wI_bd L 2 (pX L i + pX L j) (pY L i + pY L j) with w | w | w <;> (unfold wM; omega)
    refine e_iload dX5_isOpenBetween_63 rfl ?_
    refine e_aload_n dX5_isOpenBetween_65 rfl ?_
    refine e_pureV qcX5_25 hr.obj rfl rfl (S_size hr) rfl rfl rfl rfl dX5_isOpenBetween_66 ?_
    refine e_icmp_ge (tgt := 102) ⟨by omega, by omega⟩ ⟨by omega, by omega⟩ dX5_isOpenBetween_69 rfl (fun c_69 => ?_) (fun c_69 => ?_)
    · exact absurd c_69 (by omega)
    · refine e_aload_n dX5_isOpenBetween_72 rfl ?_
      refine e_iload_n dX5_isOpenBetween_73 rfl ?_
      refine e_iload_n dX5_isOpenBetween_74 rfl ?_
      refine e_aload_n dX5_isOpenBetween_75 rfl ?_
      refine e_iload dX5_isOpenBetween_76 rfl ?_
      refine e_pureS qcX5_83 (S_isBetween hr hr ha hb hj) rfl rfl rfl rfl dX5_isOpenBetween_78 ?_
      refine e_ifP_eq (tgt := 96) dX5_isOpenBetween_81 rfl (fun c_81 => ?_) (fun c_81 => ?_)
      · refine e_iinc dX5_isOpenBetween_96 rfl ?_
        refine e_goto (tgt := 63) dX5_isOpenBetween_99 rfl ?_
        exact e_loc [(4, .int (iN (j + 1 : Nat))), (3, .int (iN i)), (0, .ref r), (1, .int (iN a)), (2, .int (iN b))] ⟨rfl, rfl, rfl, rfl, rfl, trivial⟩ (ih (j + 1) (by omega) (by omega) (fun c hb1 hb2 => by
          by_cases e : c = j
          · subst e
            first | exact fun w => absurd w c_81 | exact fun w => by omega
          · exact hno c hb1 (by omega)))
      · refine e_aload_n dX5_isOpenBetween_84 rfl ?_
        refine e_iload_n dX5_isOpenBetween_85 rfl ?_
        refine e_iload dX5_isOpenBetween_86 rfl ?_
        refine e_pureS qcX5_90 (S_whereIsMiddle hr hi hj) rfl rfl rfl rfl dX5_isOpenBetween_88 ?_
        refine e_if_ge (tgt := 96) ⟨by omega, by omega⟩ dX5_isOpenBetween_91 rfl (fun c_91 => ?_) (fun c_91 => ?_)
        · refine e_iinc dX5_isOpenBetween_96 rfl ?_
          refine e_goto (tgt := 63) dX5_isOpenBetween_99 rfl ?_
          exact e_loc [(4, .int (iN (j + 1 : Nat))), (3, .int (iN i)), (0, .ref r), (1, .int (iN a)), (2, .int (iN b))] ⟨rfl, rfl, rfl, rfl, rfl, trivial⟩ (ih (j + 1) (by omega) (by omega) (fun c hb1 hb2 => by
            by_cases e : c = j
            · subst e
              first | exact fun w => absurd w c_81 | exact fun w => by omega
            · exact hno c hb1 (by omega)))
        · refine e_iconst dX5_isOpenBetween_94 ?_
          refine e_zret rfl (by first | exact Or.inl rfl | exact Or.inr rfl | exact bP_01 _) dX5_isOpenBetween_95 (by decide) (by decide) ?_
          exact ⟨by rw [bC_f (p := opn L a b) (fun w => w.2 i hi ho j hij hj c_81 (by omega))], rfl, rfl⟩
set_option maxRecDepth 20000 in
theorem ob_loop2 {z : Option Nat} (hr : rowAt G N L r h) {a b : Nat} (ha : a < L.length) (hb : b < L.length) (hp : ∀ i, i < L.length → ¬ pass3 L a b L i (nxt L.length i)) : ∀ (n i : Nat), i + n = L.length → (∀ c, c < i → on3 L a b L c → ∀ j, c < j → j < L.length → on3 L a b L j → ¬ wM L c j < 0) → Ev (g_B G mX5_isOpenBetween 0 0 (fun o z1 h1 => o = .inl (some (.int (iN (bC (opn L a b))))) ∧ z1 = z ∧ h1 = h)) 0 0 z h 36 [(3, .int (iN i)), (0, .ref r), (1, .int (iN a)), (2, .int (iN b))] [] := by
  have h9 := hr.1
  have h8 := hr.2.1
  intro n
  induction n with
  | zero =>
    intro i hin hno
    have e9 : i = L.length := by omega
    subst e9
    refine e_iload_n dX5_isOpenBetween_36 rfl ?_
    refine e_aload_n dX5_isOpenBetween_37 rfl ?_
    refine e_pureV qcX5_25 hr.obj rfl rfl (S_size hr) rfl rfl rfl rfl dX5_isOpenBetween_38 ?_
    refine e_icmp_ge (tgt := 108) ⟨by omega, by omega⟩ ⟨by omega, by omega⟩ dX5_isOpenBetween_41 rfl (fun c_41 => ?_) (fun c_41 => absurd (Int.le_refl _) c_41)
    refine e_iconst dX5_isOpenBetween_108 ?_
    refine e_zret rfl (by first | exact Or.inl rfl | exact Or.inr rfl | exact bP_01 _) dX5_isOpenBetween_109 (by decide) (by decide) ?_
    exact ⟨by rw [bC_t (p := opn L a b) ⟨hp, hno⟩], rfl, rfl⟩
  | succ n ih =>
    intro i hin hno
    have hi : i < L.length := by omega
    refine e_iload_n dX5_isOpenBetween_36 rfl ?_
    refine e_aload_n dX5_isOpenBetween_37 rfl ?_
    refine e_pureV qcX5_25 hr.obj rfl rfl (S_size hr) rfl rfl rfl rfl dX5_isOpenBetween_38 ?_
    refine e_icmp_ge (tgt := 108) ⟨by omega, by omega⟩ ⟨by omega, by omega⟩ dX5_isOpenBetween_41 rfl (fun c_41 => ?_) (fun c_41 => ?_)
    · exact absurd c_41 (by omega)
    · refine e_aload_n dX5_isOpenBetween_44 rfl ?_
      refine e_iload_n dX5_isOpenBetween_45 rfl ?_
      refine e_iload_n dX5_isOpenBetween_46 rfl ?_
      refine e_aload_n dX5_isOpenBetween_47 rfl ?_
      refine e_iload_n dX5_isOpenBetween_48 rfl ?_
      refine e_pureS qcX5_83 (S_isBetween hr hr ha hb hi) rfl rfl rfl rfl dX5_isOpenBetween_49 ?_
      refine e_ifP_ne (tgt := 58) dX5_isOpenBetween_52 rfl (fun c_52 => ?_) (fun c_52 => ?_)
      · refine e_iload_n dX5_isOpenBetween_58 rfl ?_
        refine e_iconst dX5_isOpenBetween_59 ?_
        refine e_iadd dX5_isOpenBetween_60 ?_
        refine e_istore dX5_isOpenBetween_61 rfl ?_
        refine e_loc [(4, .int (iN (i + 1 : Nat))), (3, .int (iN i)), (0, .ref r), (1, .int (iN a)), (2, .int (iN b))] ⟨rfl, rfl, rfl, rfl, rfl, trivial⟩ (ob_inner hr ha hb hi c_52 (fun hin2 => ?_) (L.length - (i + 1)) (i + 1) (by omega) (by omega) (fun b hb1 hb2 => absurd hb1 (by omega)))
        refine e_iinc dX5_isOpenBetween_102 rfl ?_
        refine e_goto (tgt := 36) dX5_isOpenBetween_105 rfl ?_
        exact e_loc [(3, .int (iN (i + 1 : Nat))), (0, .ref r), (1, .int (iN a)), (2, .int (iN b))] ⟨rfl, rfl, rfl, rfl, trivial⟩ (ih (i + 1) (by omega) (fun c hc => by
          by_cases e : c = i
          · subst e
            exact fun _ => hin2
          · exact hno c (by omega)))
      · refine e_goto (tgt := 102) dX5_isOpenBetween_55 rfl ?_
        refine e_iinc dX5_isOpenBetween_102 rfl ?_
        refine e_goto (tgt := 36) dX5_isOpenBetween_105 rfl ?_
        exact e_loc [(3, .int (iN (i + 1 : Nat))), (0, .ref r), (1, .int (iN a)), (2, .int (iN b))] ⟨rfl, rfl, rfl, rfl, trivial⟩ (ih (i + 1) (by omega) (fun c hc => by
          by_cases e : c = i
          · subst e
            exact fun w => absurd w c_52
          · exact hno c (by omega)))
set_option maxRecDepth 20000 in
theorem ob_loop1 {z : Option Nat} (hr : rowAt G N L r h) {a b : Nat} (ha : a < L.length) (hb : b < L.length) : ∀ (n i : Nat), i + n = L.length → (∀ c, c < i → ¬ pass3 L a b L c (nxt L.length c)) → Ev (g_B G mX5_isOpenBetween 0 0 (fun o z1 h1 => o = .inl (some (.int (iN (bC (opn L a b))))) ∧ z1 = z ∧ h1 = h)) 0 0 z h 2 [(3, .int (iN i)), (0, .ref r), (1, .int (iN a)), (2, .int (iN b))] [] := by
  have h9 := hr.1
  have h8 := hr.2.1
  intro n
  induction n with
  | zero =>
    intro i hin hno
    have e9 : i = L.length := by omega
    subst e9
    refine e_iload_n dX5_isOpenBetween_2 rfl ?_
    refine e_aload_n dX5_isOpenBetween_3 rfl ?_
    refine e_pureV qcX5_25 hr.obj rfl rfl (S_size hr) rfl rfl rfl rfl dX5_isOpenBetween_4 ?_
    refine e_icmp_ge (tgt := 34) ⟨by omega, by omega⟩ ⟨by omega, by omega⟩ dX5_isOpenBetween_7 rfl (fun c_7 => ?_) (fun c_7 => absurd (Int.le_refl _) c_7)
    refine e_iconst dX5_isOpenBetween_34 ?_
    refine e_istore_n dX5_isOpenBetween_35 rfl ?_
    exact e_loc [(3, .int (iN (0 : Nat))), (0, .ref r), (1, .int (iN a)), (2, .int (iN b))] ⟨rfl, rfl, rfl, rfl, trivial⟩ (ob_loop2 hr ha hb hno L.length 0 (by omega) (fun c hc => absurd hc (by omega)))
  | succ n ih =>
    intro i hin hno
    have hi : i < L.length := by omega
    refine e_iload_n dX5_isOpenBetween_2 rfl ?_
    refine e_aload_n dX5_isOpenBetween_3 rfl ?_
    refine e_pureV qcX5_25 hr.obj rfl rfl (S_size hr) rfl rfl rfl rfl dX5_isOpenBetween_4 ?_
    refine e_icmp_ge (tgt := 34) ⟨by omega, by omega⟩ ⟨by omega, by omega⟩ dX5_isOpenBetween_7 rfl (fun c_7 => ?_) (fun c_7 => ?_)
    · exact absurd c_7 (by omega)
    · refine e_aload_n dX5_isOpenBetween_10 rfl ?_
      refine e_iload_n dX5_isOpenBetween_11 rfl ?_
      refine e_iload_n dX5_isOpenBetween_12 rfl ?_
      refine e_aload_n dX5_isOpenBetween_13 rfl ?_
      refine e_iload_n dX5_isOpenBetween_14 rfl ?_
      refine e_aload_n dX5_isOpenBetween_15 rfl ?_
      refine e_iload_n dX5_isOpenBetween_16 rfl ?_
      refine e_pureV qcX5_7 hr.obj rfl rfl (S_next hr hi) rfl rfl rfl rfl dX5_isOpenBetween_17 ?_
      refine e_pureS qcX5_87 (S_passThrough hr hr ha hb hi (nxt_lt hi)) rfl rfl rfl rfl dX5_isOpenBetween_20 ?_
      refine e_ifP_eq (tgt := 28) dX5_isOpenBetween_23 rfl (fun c_23 => ?_) (fun c_23 => ?_)
      · refine e_iinc dX5_isOpenBetween_28 rfl ?_
        refine e_goto (tgt := 2) dX5_isOpenBetween_31 rfl ?_
        exact e_loc [(3, .int (iN (i + 1 : Nat))), (0, .ref r), (1, .int (iN a)), (2, .int (iN b))] ⟨rfl, rfl, rfl, rfl, trivial⟩ (ih (i + 1) (by omega) (fun c hc => by
          by_cases e : c = i
          · subst e
            exact c_23
          · exact hno c (by omega)))
      · refine e_iconst dX5_isOpenBetween_26 ?_
        refine e_zret rfl (by first | exact Or.inl rfl | exact Or.inr rfl | exact bP_01 _) dX5_isOpenBetween_27 (by decide) (by decide) ?_
        exact ⟨by rw [bC_f (p := opn L a b) (fun w => w.1 i hi c_23)], rfl, rfl⟩
set_option maxRecDepth 20000 in
theorem S_isOpenBetween (hr : rowAt G N L r h) {a b : Nat} (ha : a < L.length) (hb : b < L.length) : Pure G mX5_isOpenBetween [.ref r, .int (iN a), .int (iN b)] h (.int (iN (bC (opn L a b)))) := by
  intro z
  refine run_of rfl plX5 rfl ?_
  refine e_iconst dX5_isOpenBetween_0 ?_
  refine e_istore_n dX5_isOpenBetween_1 rfl ?_
  exact e_loc [(3, .int (iN (0 : Nat))), (0, .ref r), (1, .int (iN a)), (2, .int (iN b))] ⟨rfl, rfl, rfl, rfl, trivial⟩ (ob_loop1 hr ha hb L.length 0 (by omega) (fun c hc => absurd hc (by omega)))
end PSHAPES3
