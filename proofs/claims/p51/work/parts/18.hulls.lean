/-! Hulls -/
theorem plX1 : plainName RX1 = true := by decide +kernel
/-- a row that is full takes nothing more -/
def capp (N : Nat) (L : PL) (e : Int × Int × Int) : PL := if L.length < N then L ++ [e] else L
abbrev turnL (L : PL) (x y : Int) : Prop := 0 < tw (pX L (L.length - 2)) (pY L (L.length - 2)) (pX L (L.length - 1)) (pY L (L.length - 1)) x y
def popW (k : Nat) (x y : Int) : Nat → PL → PL
  | 0, L => L
  | f + 1, L => if L.length ≤ k ∨ turnL L x y then L else popW k x y f L.dropLast
abbrev lastAt (L : PL) (x y : Int) : Prop := 0 < L.length ∧ pX L (L.length - 1) = x ∧ pY L (L.length - 1) = y
def bend (N : Nat) (L : PL) (k : Nat) (x y : Int) : PL := if lastAt L x y then L else capp N (popW k x y L.length L) (x, y, 0)
def lowN (N : Nat) (P : PL) : Nat → PL
  | 0 => []
  | i + 1 => bend N (lowN N P i) 1 (pX P i) (pY P i)
def upN (N : Nat) (P : PL) (k : Nat) : Nat → PL → PL
  | 0, H => H
  | i + 1, H => upN N P k i (bend N H k (pX P i) (pY P i))
abbrev shut (H : PL) : PL := if 1 < H.length then H.dropLast else H
def wrapN (N : Nat) (P : PL) : PL := shut (upN N P (lowN N P P.length).length (P.length - 1) (lowN N P P.length))
noncomputable def peelN (H : PL) : Nat → PL → PL
  | 0, P => P
  | i + 1, P => peelN H i (if wI H 1 (pX P i) (pY P i) ≤ 0 then P.eraseIdx i else P)
section PHULLS
variable {G : g_X} {N N2 N3 : Nat} {L L2 L3 : PL} {r r2 r3 : Nat} {h : g_hp}
set_option maxRecDepth 20000 in
theorem S_appendC (hr : rowAt G N L r h) {x y m : Int} (hx : bd x) (hy : bd y) (hm : bd m) : Does G mX4_append [.ref r, .int (iN x), .int (iN y), .int (iN m)] h (fun v h1 => v = none ∧ rowAt G N (capp N L (x, y, m)) r h1 ∧ g_fr r 4 h h1) := by
  by_cases c : L.length < N
  · unfold capp
    rw [if_pos c]
    exact S_append hr c hx hy hm
  unfold capp
  rw [if_neg c]
  have h8 := hr.2.1
  have h9 := hr.1
  obtain ⟨hl, hN, hk, xs, ys, ms, ⟨f0, f1, f2, f3⟩, hc⟩ := id hr
  intro z
  refine run_of rfl plX4 rfl ?_
  refine e_aload_n dX4_append_0 rfl ?_
  refine e_getf fX4_7 f0 rfl dX4_append_1 ?_
  refine e_aload_n dX4_append_4 rfl ?_
  refine e_getf fX4_19 f0 rfl dX4_append_5 ?_
  refine e_alenI f1 dX4_append_8 ?_
  refine e_icmp_ge (tgt := 35) ⟨by omega, by omega⟩ ⟨by omega, by omega⟩ dX4_append_9 rfl (fun c_9 => ?_) (fun c_9 => ?_)
  · refine e_vret rfl dX4_append_35 (by decide) (by decide) ?_
    exact ⟨none, rfl, rfl, rfl, hr, g_fr.rf⟩
  · exact absurd c_9 (by omega)
set_option maxRecDepth 20000 in
theorem S_turnsLeft (hr : rowAt G N L r h) {i : Nat} (hi : i + 1 < L.length) {x y : Int} (hx : bd x) (hy : bd y) : Pure G mX1_turnsLeft [.ref r, .int (iN ((i : Int) + 1)), .int (iN x), .int (iN y)] h (.int (iN (bP (0 < tw (pX L i) (pY L i) (pX L (i + 1)) (pY L (i + 1)) x y)))) := by
  have e1 : (i : Int) + 1 - 1 = (i : Int) := by omega
  have e2 : (i : Int) + 1 = ((i + 1 : Nat) : Int) := rfl
  have u1 := hr.2.2.1.at hi
  have u2 := hr.2.2.1.at (show i < L.length by omega)
  have ht := tw_bd (ax := pX L i) (ay := pY L i) (bx := pX L (i + 1)) (by' := pY L (i + 1)) (x := x) (y := y) ⟨by omega, by omega⟩ ⟨by omega, by omega⟩ ⟨by omega, by omega⟩ ⟨by omega, by omega⟩ ⟨by omega, by omega⟩ ⟨by omega, by omega⟩
  intro z
  refine run_of rfl plX1 rfl ?_
  refine e_aload_n dX1_turnsLeft_0 rfl ?_
  refine e_iload_n dX1_turnsLeft_1 rfl ?_
  refine e_iconst dX1_turnsLeft_2 ?_
  refine e_isub dX1_turnsLeft_3 ?_
  rw [e1]
  refine e_pureV qcX1_16 hr.obj rfl rfl (S_xAt hr (show i < L.length by omega)) rfl rfl rfl rfl dX1_turnsLeft_4 ?_
  refine e_i2l ⟨by omega, by omega⟩ dX1_turnsLeft_7 ?_
  refine e_aload_n dX1_turnsLeft_8 rfl ?_
  refine e_iload_n dX1_turnsLeft_9 rfl ?_
  refine e_iconst dX1_turnsLeft_10 ?_
  refine e_isub dX1_turnsLeft_11 ?_
  rw [e1]
  refine e_pureV qcX1_20 hr.obj rfl rfl (S_yAt hr (show i < L.length by omega)) rfl rfl rfl rfl dX1_turnsLeft_12 ?_
  refine e_i2l ⟨by omega, by omega⟩ dX1_turnsLeft_15 ?_
  refine e_aload_n dX1_turnsLeft_16 rfl ?_
  refine e_iload_n dX1_turnsLeft_17 rfl ?_
  try rw [e2]
  refine e_pureV qcX1_16 hr.obj rfl rfl (S_xAt hr hi) rfl rfl rfl rfl dX1_turnsLeft_18 ?_
  refine e_i2l ⟨by omega, by omega⟩ dX1_turnsLeft_21 ?_
  refine e_aload_n dX1_turnsLeft_22 rfl ?_
  refine e_iload_n dX1_turnsLeft_23 rfl ?_
  try rw [e2]
  refine e_pureV qcX1_20 hr.obj rfl rfl (S_yAt hr hi) rfl rfl rfl rfl dX1_turnsLeft_24 ?_
  refine e_i2l ⟨by omega, by omega⟩ dX1_turnsLeft_27 ?_
  refine e_iload_n dX1_turnsLeft_28 rfl ?_
  refine e_i2l ⟨by omega, by omega⟩ dX1_turnsLeft_29 ?_
  refine e_iload_n dX1_turnsLeft_30 rfl ?_
  refine e_i2l ⟨by omega, by omega⟩ dX1_turnsLeft_31 ?_
  refine e_pureS qcX1_44 (S_twist _ _ _ _ _ _) rfl rfl rfl rfl dX1_turnsLeft_32 ?_
  refine e_lconst dX1_turnsLeft_35 ?_
  refine e_matL_le (A := 44) ⟨by omega, by omega⟩ r64_0 dX1_turnsLeft_36 dX1_turnsLeft_37 rfl dX1_turnsLeft_40 dX1_turnsLeft_41 rfl dX1_turnsLeft_44 ?_
  refine e_zret rfl (by first | exact Or.inl rfl | exact Or.inr rfl | exact bP_01 _) dX1_turnsLeft_45 (by decide) (by decide) ?_
  exact ⟨rfl, rfl, rfl⟩
set_option maxRecDepth 20000 in
theorem bt_loop {z : Option Nat} {k : Nat} (hk : 1 ≤ k ∧ k ≤ 1000) {x y : Int} (hx : bd x) (hy : bd y) : ∀ (f : Nat) (H : PL) (h1 : g_hp), H.length ≤ f → rowAt G N H r h1 → g_fr r 4 h h1 → Ev (g_B G mX1_bendTo 0 0 (fun o z1 h1 => ∃ v, o = .inl v ∧ z1 = z ∧ (v = none ∧ rowAt G N (capp N (popW k x y f H) (x, y, 0)) r h1 ∧ g_fr r 4 h h1))) 0 0 z h1 25 [(4, .int (iN ((H.length : Int) - 1))), (0, .ref r), (1, .int (iN k)), (2, .int (iN x)), (3, .int (iN y))] [] := by
  intro f
  induction f with
  | zero =>
    intro H h1 hf hr hfr
    have h9 := hr.1
    have h8 := hr.2.1
    refine e_iload dX1_bendTo_25 rfl ?_
    refine e_iload_n dX1_bendTo_27 rfl ?_
    refine e_icmp_lt (tgt := 52) ⟨by omega, by omega⟩ ⟨by omega, by omega⟩ dX1_bendTo_28 rfl (fun c_28 => ?_) (fun c_28 => absurd c_28 (by omega))
    refine e_aload_n dX1_bendTo_52 rfl ?_
    refine e_iload_n dX1_bendTo_53 rfl ?_
    refine e_iload_n dX1_bendTo_54 rfl ?_
    refine e_iconst dX1_bendTo_55 ?_
    refine e_doesV qcX1_40 hr.obj rfl rfl (S_appendC hr hx hy (show bd 0 from ⟨by omega, by omega⟩)) rfl rfl rfl rfl dX1_bendTo_56 ?_
    intro v h2 q2
    obtain ⟨rfl, g2, fr2⟩ := q2
    refine e_vret rfl dX1_bendTo_59 (by decide) (by decide) ?_
    exact ⟨none, rfl, rfl, rfl, g2, hfr.tr fr2⟩
  | succ f ih =>
    intro H h1 hf hr hfr
    have h9 := hr.1
    have h8 := hr.2.1
    refine e_iload dX1_bendTo_25 rfl ?_
    refine e_iload_n dX1_bendTo_27 rfl ?_
    refine e_icmp_lt (tgt := 52) ⟨by omega, by omega⟩ ⟨by omega, by omega⟩ dX1_bendTo_28 rfl (fun c_28 => ?_) (fun c_28 => ?_)
    · rw [show popW k x y (f + 1) H = H from if_pos (by first | exact Or.inl (by omega) | exact Or.inr (w2.mpr c_39))]
      refine e_aload_n dX1_bendTo_52 rfl ?_
      refine e_iload_n dX1_bendTo_53 rfl ?_
      refine e_iload_n dX1_bendTo_54 rfl ?_
      refine e_iconst dX1_bendTo_55 ?_
      refine e_doesV qcX1_40 hr.obj rfl rfl (S_appendC hr hx hy (show bd 0 from ⟨by omega, by omega⟩)) rfl rfl rfl rfl dX1_bendTo_56 ?_
      intro v h2 q2
      obtain ⟨rfl, g2, fr2⟩ := q2
      refine e_vret rfl dX1_bendTo_59 (by decide) (by decide) ?_
      exact ⟨none, rfl, rfl, rfl, g2, hfr.tr fr2⟩
    · have hq : (H.length - 2) + 1 < H.length := by omega
      have w1 : H.length - 1 = (H.length - 2) + 1 := by omega
      have w2 : turnL H x y ↔ 0 < tw (pX H (H.length - 2)) (pY H (H.length - 2)) (pX H (H.length - 2 + 1)) (pY H (H.length - 2 + 1)) x y := by unfold turnL; rw [w1]
      have e5 : ((H.length : Int) - 1) = ((H.length - 2 : Nat) : Int) + 1 := by omega
      refine e_aload_n dX1_bendTo_31 rfl ?_
      refine e_iload dX1_bendTo_32 rfl ?_
      refine e_iload_n dX1_bendTo_34 rfl ?_
      refine e_iload_n dX1_bendTo_35 rfl ?_
      rw [e5]
      refine e_pureS qcX1_36 (S_turnsLeft hr hq hx hy) rfl rfl rfl rfl dX1_bendTo_36 ?_
      refine e_ifP_ne (tgt := 52) dX1_bendTo_39 rfl (fun c_39 => ?_) (fun c_39 => ?_)
      · rw [show popW k x y (f + 1) H = H from if_pos (by first | exact Or.inl (by omega) | exact Or.inr (w2.mpr c_39))]
        refine e_aload_n dX1_bendTo_52 rfl ?_
        refine e_iload_n dX1_bendTo_53 rfl ?_
        refine e_iload_n dX1_bendTo_54 rfl ?_
        refine e_iconst dX1_bendTo_55 ?_
        refine e_doesV qcX1_40 hr.obj rfl rfl (S_appendC hr hx hy (show bd 0 from ⟨by omega, by omega⟩)) rfl rfl rfl rfl dX1_bendTo_56 ?_
        intro v h2 q2
        obtain ⟨rfl, g2, fr2⟩ := q2
        refine e_vret rfl dX1_bendTo_59 (by decide) (by decide) ?_
        exact ⟨none, rfl, rfl, rfl, g2, hfr.tr fr2⟩
      · refine e_aload_n dX1_bendTo_42 rfl ?_
        refine e_doesV qcX1_29 hr.obj rfl rfl (S_shorten hr (by omega)) rfl rfl rfl rfl dX1_bendTo_43 ?_
        intro v h2 q2
        obtain ⟨rfl, g2, fr2⟩ := q2
        refine e_iinc dX1_bendTo_46 rfl ?_
        refine e_goto (tgt := 25) dX1_bendTo_49 rfl ?_
        rw [show popW k x y (f + 1) H = popW k x y f H.dropLast from if_neg (fun w => by rcases w with w | w; omega; exact c_39 (w2.mp w))]
        refine e_loc [(4, .int (iN ((H.dropLast.length : Int) - 1))), (0, .ref r), (1, .int (iN k)), (2, .int (iN x)), (3, .int (iN y))] ⟨?_, rfl, rfl, rfl, rfl, trivial⟩ (ih H.dropLast h2 (by rw [List.length_dropLast]; omega) g2 (hfr.tr fr2))
        show some (Value.int (iN _)) = some (Value.int (iN _))
        rw [List.length_dropLast, show (((H.length - 2 : Nat) : Int) + 1 + -1) = ((H.length - 1 : Nat) : Int) - 1 by omega]
set_option maxRecDepth 20000 in
theorem S_bendTo (hr : rowAt G N L r h) {k : Nat} (hk : 1 ≤ k ∧ k ≤ 1000) {x y : Int} (hx : bd x) (hy : bd y) : Does G mX1_bendTo [.ref r, .int (iN k), .int (iN x), .int (iN y)] h (fun v h1 => v = none ∧ rowAt G N (bend N L k x y) r h1 ∧ g_fr r 4 h h1) := by
  intro z
  refine run_of rfl plX1 rfl ?_
  have h9 := hr.1
  have h8 := hr.2.1
  refine e_aload_n dX1_bendTo_0 rfl ?_
  refine e_pureV qcX1_12 hr.obj rfl rfl (S_size hr) rfl rfl rfl rfl dX1_bendTo_1 ?_
  refine e_iconst dX1_bendTo_4 ?_
  refine e_isub dX1_bendTo_5 ?_
  refine e_istore dX1_bendTo_6 rfl ?_
  refine e_iload dX1_bendTo_8 rfl ?_
  refine e_if_lt (tgt := 25) ⟨by omega, by omega⟩ dX1_bendTo_10 rfl (fun c_10 => ?_) (fun c_10 => ?_)
  · rw [show bend N L k x y = capp N (popW k x y L.length L) (x, y, 0) from if_neg (fun w => by first | exact absurd w.1 (by omega) | exact absurd w.2 c_21)]
    exact e_loc [(4, .int (iN ((L.length : Int) - 1))), (0, .ref r), (1, .int (iN k)), (2, .int (iN x)), (3, .int (iN y))] ⟨rfl, rfl, rfl, rfl, rfl, trivial⟩ (bt_loop hk hx hy L.length L h (Nat.le_refl _) hr g_fr.rf)
  · have e5 : ((L.length : Int) - 1) = ((L.length - 1 : Nat) : Int) := by omega
    refine e_aload_n dX1_bendTo_13 rfl ?_
    refine e_iload dX1_bendTo_14 rfl ?_
    refine e_iload_n dX1_bendTo_16 rfl ?_
    refine e_iload_n dX1_bendTo_17 rfl ?_
    rw [e5]
    refine e_pureV qcX1_32 hr.obj rfl rfl (S_isAt hr (show L.length - 1 < L.length by omega) ⟨by omega, by omega⟩ ⟨by omega, by omega⟩) rfl rfl rfl rfl dX1_bendTo_18 ?_
    refine e_ifP_eq (tgt := 25) dX1_bendTo_21 rfl (fun c_21 => ?_) (fun c_21 => ?_)
    · rw [← e5]
      rw [show bend N L k x y = capp N (popW k x y L.length L) (x, y, 0) from if_neg (fun w => by first | exact absurd w.1 (by omega) | exact absurd w.2 c_21)]
      exact e_loc [(4, .int (iN ((L.length : Int) - 1))), (0, .ref r), (1, .int (iN k)), (2, .int (iN x)), (3, .int (iN y))] ⟨rfl, rfl, rfl, rfl, rfl, trivial⟩ (bt_loop hk hx hy L.length L h (Nat.le_refl _) hr g_fr.rf)
    · refine e_vret rfl dX1_bendTo_24 (by decide) (by decide) ?_
      exact ⟨none, rfl, rfl, rfl, by rw [show bend N L k x y = L from if_pos ⟨by omega, c_21⟩]; exact hr, g_fr.rf⟩
theorem capp_len {N : Nat} {L : PL} {e : Int × Int × Int} (h : 0 < N) : 0 < (capp N L e).length := by
  unfold capp
  split
  · simp
  · omega
theorem bend_len {N : Nat} {L : PL} {k : Nat} {x y : Int} (h : 0 < N) : 0 < (bend N L k x y).length := by
  unfold bend
  split
  · rename_i c; exact c.1
  · exact capp_len h
theorem lowN_len {N : Nat} {P : PL} (h : 0 < N) : ∀ n, 0 < n → 0 < (lowN N P n).length
  | n + 1, _ => bend_len h
set_option maxRecDepth 20000 in
theorem wr_end {z : Option Nat} {H : PL} {h1 : g_hp} (hr : rowAt G N H r h1) (hfr : g_fr r 4 h h1) (hq : shut H = wrapN N L2) : Ev (g_B G mX1_wrap 0 0 (fun o z1 h1 => ∃ v, o = .inl v ∧ z1 = z ∧ (v = none ∧ rowAt G N (wrapN N L2) r h1 ∧ g_fr r 4 h h1))) 0 0 z h1 72 [(1, .ref r), (0, .ref r2)] [] := by
  have h9 := hr.1
  have h8 := hr.2.1
  refine e_aload_n dX1_wrap_72 rfl ?_
  refine e_pureV qcX1_12 hr.obj rfl rfl (S_size hr) rfl rfl rfl rfl dX1_wrap_73 ?_
  refine e_iconst dX1_wrap_76 ?_
  refine e_icmp_le (tgt := 84) ⟨by omega, by omega⟩ ⟨by omega, by omega⟩ dX1_wrap_77 rfl (fun c_77 => ?_) (fun c_77 => ?_)
  · refine e_vret rfl dX1_wrap_84 (by decide) (by decide) ?_
    first | exact ⟨none, rfl, rfl, rfl, by rw [← hq, show shut H = H.dropLast from if_pos (by omega)]; exact g2, hfr.tr fr2⟩ | exact ⟨none, rfl, rfl, rfl, by rw [← hq, show shut H = H from if_neg (by omega)]; exact hr, hfr⟩
  · refine e_aload_n dX1_wrap_80 rfl ?_
    refine e_doesV qcX1_29 hr.obj rfl rfl (S_shorten hr (by omega)) rfl rfl rfl rfl dX1_wrap_81 ?_
    intro v h2 q2
    obtain ⟨rfl, g2, fr2⟩ := q2
    refine e_vret rfl dX1_wrap_84 (by decide) (by decide) ?_
    first | exact ⟨none, rfl, rfl, rfl, by rw [← hq, show shut H = H.dropLast from if_pos (by omega)]; exact g2, hfr.tr fr2⟩ | exact ⟨none, rfl, rfl, rfl, by rw [← hq, show shut H = H from if_neg (by omega)]; exact hr, hfr⟩
set_option maxRecDepth 20000 in
theorem wr_up {z : Option Nat} (h2r : rowAt G N2 L2 r2 h) (hd : r + 4 ≤ r2 ∨ r2 + 4 ≤ r) {k : Nat} (hk : 1 ≤ k ∧ k ≤ 1000) : ∀ (i : Nat) (H : PL) (h1 : g_hp), i ≤ L2.length → rowAt G N H r h1 → g_fr r 4 h h1 → shut (upN N L2 k i H) = wrapN N L2 → Ev (g_B G mX1_wrap 0 0 (fun o z1 h1 => ∃ v, o = .inl v ∧ z1 = z ∧ (v = none ∧ rowAt G N (wrapN N L2) r h1 ∧ g_fr r 4 h h1))) 0 0 z h1 47 [(3, .int (iN ((i : Int) - 1))), (2, .int (iN k)), (1, .ref r), (0, .ref r2)] [] := by
  have h9 := h2r.1
  have h8 := h2r.2.1
  intro i
  induction i with
  | zero =>
    intro H h1 hi hr hfr hq
    refine e_iload_n dX1_wrap_47 rfl ?_
    refine e_if_lt (tgt := 72) ⟨by omega, by omega⟩ dX1_wrap_48 rfl (fun c_48 => ?_) (fun c_48 => absurd c_48 (by omega))
    exact e_loc [(1, .ref r), (0, .ref r2)] ⟨rfl, rfl, trivial⟩ (wr_end hr hfr hq)
  | succ i ih =>
    intro H h1 hi hr hfr hq
    have h3 := h2r.off hfr (by omega)
    have u1 := h2r.2.2.1.at (show i < L2.length by omega)
    have e5 : (((i + 1 : Nat) : Int) - 1) = (i : Int) := by omega
    rw [e5]
    refine e_iload_n dX1_wrap_47 rfl ?_
    refine e_if_lt (tgt := 72) ⟨by omega, by omega⟩ dX1_wrap_48 rfl (fun c_48 => ?_) (fun c_48 => ?_)
    · exact absurd c_48 (by omega)
    · refine e_aload_n dX1_wrap_51 rfl ?_
      refine e_iload_n dX1_wrap_52 rfl ?_
      refine e_aload_n dX1_wrap_53 rfl ?_
      refine e_iload_n dX1_wrap_54 rfl ?_
      refine e_pureV qcX1_16 h3.obj rfl rfl (S_xAt h3 (show i < L2.length by omega)) rfl rfl rfl rfl dX1_wrap_55 ?_
      refine e_aload_n dX1_wrap_58 rfl ?_
      refine e_iload_n dX1_wrap_59 rfl ?_
      refine e_pureV qcX1_20 h3.obj rfl rfl (S_yAt h3 (show i < L2.length by omega)) rfl rfl rfl rfl dX1_wrap_60 ?_
      refine e_doesS qcX1_23 (S_bendTo hr hk u1.1 u1.2.1) rfl rfl rfl rfl dX1_wrap_63 ?_
      intro v h4 q4
      obtain ⟨rfl, g4, fr4⟩ := q4
      refine e_iinc dX1_wrap_66 rfl ?_
      refine e_goto (tgt := 47) dX1_wrap_69 rfl ?_
      exact e_loc [(3, .int (iN ((i : Int) - 1))), (2, .int (iN k)), (1, .ref r), (0, .ref r2)] ⟨rfl, rfl, rfl, rfl, trivial⟩ (ih _ h4 (by omega) g4 (hfr.tr fr4) hq)
set_option maxRecDepth 20000 in
theorem wr_low {z : Option Nat} (h2r : rowAt G N2 L2 r2 h) (hd : r + 4 ≤ r2 ∨ r2 + 4 ≤ r) (hN : 0 < N) : ∀ (n i : Nat) (h1 : g_hp), i + n = L2.length → rowAt G N (lowN N L2 i) r h1 → g_fr r 4 h h1 → Ev (g_B G mX1_wrap 0 0 (fun o z1 h1 => ∃ v, o = .inl v ∧ z1 = z ∧ (v = none ∧ rowAt G N (wrapN N L2) r h1 ∧ g_fr r 4 h h1))) 0 0 z h1 6 [(2, .int (iN i)), (1, .ref r), (0, .ref r2)] [] := by
  have h9 := h2r.1
  have h8 := h2r.2.1
  intro n
  induction n with
  | zero =>
    intro i h1 hin hr hfr
    have e9 : i = L2.length := by omega
    subst e9
    have h3 := h2r.off hfr (by omega)
    have h5 := hr.1
    have h6 := hr.2.1
    refine e_iload_n dX1_wrap_6 rfl ?_
    refine e_aload_n dX1_wrap_7 rfl ?_
    refine e_pureV qcX1_12 h3.obj rfl rfl (S_size h3) rfl rfl rfl rfl dX1_wrap_8 ?_
    refine e_icmp_ge (tgt := 35) ⟨by omega, by omega⟩ ⟨by omega, by omega⟩ dX1_wrap_11 rfl (fun c_11 => ?_) (fun c_11 => absurd (Int.le_refl _) c_11)
    refine e_aload_n dX1_wrap_35 rfl ?_
    refine e_pureV qcX1_12 hr.obj rfl rfl (S_size hr) rfl rfl rfl rfl dX1_wrap_36 ?_
    refine e_istore_n dX1_wrap_39 rfl ?_
    refine e_aload_n dX1_wrap_40 rfl ?_
    refine e_pureV qcX1_12 h3.obj rfl rfl (S_size h3) rfl rfl rfl rfl dX1_wrap_41 ?_
    refine e_iconst dX1_wrap_44 ?_
    refine e_isub dX1_wrap_45 ?_
    refine e_istore_n dX1_wrap_46 rfl ?_
    rcases Nat.eq_zero_or_pos L2.length with e0 | e0
    · refine e_iload_n dX1_wrap_47 rfl ?_
      refine e_if_lt (tgt := 72) ⟨by omega, by omega⟩ dX1_wrap_48 rfl (fun c_48 => ?_) (fun c_48 => absurd c_48 (by omega))
      exact e_loc [(1, .ref r), (0, .ref r2)] ⟨rfl, rfl, trivial⟩ (wr_end hr hfr (by unfold wrapN; rw [e0]; rfl))
    · have l1 := lowN_len (P := L2) hN L2.length e0
      refine e_loc [(3, .int (iN (((L2.length - 1 : Nat) : Int) - 1))), (2, .int (iN (lowN N L2 L2.length).length)), (1, .ref r), (0, .ref r2)] ⟨?_, rfl, rfl, rfl, trivial⟩ (wr_up h2r hd ⟨by omega, by omega⟩ (L2.length - 1) _ h1 (by omega) hr hfr rfl)
      show some (Value.int (iN _)) = some (Value.int (iN _))
      rw [show ((L2.length - 1 : Nat) : Int) - 1 = (L2.length : Int) - 2 by omega]
  | succ n ih =>
    intro i h1 hin hr hfr
    have h3 := h2r.off hfr (by omega)
    have hi : i < L2.length := by omega
    have u1 := h2r.2.2.1.at hi
    refine e_iload_n dX1_wrap_6 rfl ?_
    refine e_aload_n dX1_wrap_7 rfl ?_
    refine e_pureV qcX1_12 h3.obj rfl rfl (S_size h3) rfl rfl rfl rfl dX1_wrap_8 ?_
    refine e_icmp_ge (tgt := 35) ⟨by omega, by omega⟩ ⟨by omega, by omega⟩ dX1_wrap_11 rfl (fun c_11 => ?_) (fun c_11 => ?_)
    · exact absurd c_11 (by omega)
    · refine e_aload_n dX1_wrap_14 rfl ?_
      refine e_iconst dX1_wrap_15 ?_
      refine e_aload_n dX1_wrap_16 rfl ?_
      refine e_iload_n dX1_wrap_17 rfl ?_
      refine e_pureV qcX1_16 h3.obj rfl rfl (S_xAt h3 hi) rfl rfl rfl rfl dX1_wrap_18 ?_
      refine e_aload_n dX1_wrap_21 rfl ?_
      refine e_iload_n dX1_wrap_22 rfl ?_
      refine e_pureV qcX1_20 h3.obj rfl rfl (S_yAt h3 hi) rfl rfl rfl rfl dX1_wrap_23 ?_
      refine e_doesS qcX1_23 (S_bendTo (k := 1) hr ⟨Nat.le_refl _, by omega⟩ u1.1 u1.2.1) rfl rfl rfl rfl dX1_wrap_26 ?_
      intro v h4 q4
      obtain ⟨rfl, g4, fr4⟩ := q4
      refine e_iinc dX1_wrap_29 rfl ?_
      refine e_goto (tgt := 6) dX1_wrap_32 rfl ?_
      exact e_loc [(2, .int (iN (i + 1 : Nat))), (1, .ref r), (0, .ref r2)] ⟨rfl, rfl, rfl, trivial⟩ (ih (i + 1) h4 (by omega) g4 (hfr.tr fr4))
set_option maxRecDepth 20000 in
theorem S_wrap (hr : rowAt G N L r h) (h2r : rowAt G N2 L2 r2 h) (hd : r + 4 ≤ r2 ∨ r2 + 4 ≤ r) (hN : 0 < N) : Does G mX1_wrap [.ref r2, .ref r] h (fun v h1 => v = none ∧ rowAt G N (wrapN N L2) r h1 ∧ g_fr r 4 h h1) := by
  intro z
  refine run_of rfl plX1 rfl ?_
  refine e_aload_n dX1_wrap_0 rfl ?_
  refine e_doesV qcX1_7 hr.obj rfl rfl (S_reset hr) rfl rfl rfl rfl dX1_wrap_1 ?_
  intro v h1 q1
  obtain ⟨rfl, g1, fr1⟩ := q1
  refine e_iconst dX1_wrap_4 ?_
  refine e_istore_n dX1_wrap_5 rfl ?_
  exact e_loc [(2, .int (iN (0 : Nat))), (1, .ref r), (0, .ref r2)] ⟨rfl, rfl, rfl, trivial⟩ (wr_low h2r hd hN L2.length 0 h1 (by omega) g1 fr1)
end PHULLS
