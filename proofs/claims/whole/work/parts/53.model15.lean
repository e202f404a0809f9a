/-! The reference: lines -/
theorem mdE.add {sc sc' : Nat → Int} {ar ar' : Nat → Nat → Int} {E : PL} (x : mdE sc ar E) (hl : E.length / 2 < 20) {u v w q : Int} (hn : nrOK u v) (hn2 : nrOK w q) (e33 : sc' 33 = ((E.length / 2 : Nat) : Int) + 1) (a14 : ar' 14 = uI (ar 14) (E.length / 2) u) (a15 : ar' 15 = uI (ar 15) (E.length / 2) v) (a16 : ar' 16 = uI (ar 16) (E.length / 2) w) (a17 : ar' 17 = uI (ar 17) (E.length / 2) q) : mdE sc' ar' (E ++ [(u, v, 0)] ++ [(w, q, 0)]) := by
  obtain ⟨x1, x2, x3, x4, x5⟩ := x
  have el : (E ++ [(u, v, 0)] ++ [(w, q, 0)]).length = E.length + 2 := by rw [List.length_append, List.length_append, List.length_singleton, List.length_singleton]
  have el1 : (E ++ [(u, v, 0)]).length = E.length + 1 := by rw [List.length_append, List.length_singleton]
  have at0 : ∀ i, i < E.length → pX (E ++ [(u, v, 0)] ++ [(w, q, 0)]) i = pX E i ∧ pY (E ++ [(u, v, 0)] ++ [(w, q, 0)]) i = pY E i ∧ pM (E ++ [(u, v, 0)] ++ [(w, q, 0)]) i = pM E i := fun i hi => by
    obtain ⟨q1, q2, q3⟩ := (pX_app (L := E ++ [(u, v, 0)]) (p := (w, q, 0)) (i := i)).1 (by omega)
    obtain ⟨r1, r2, r3⟩ := (pX_app (L := E) (p := (u, v, 0)) (i := i)).1 hi
    exact ⟨q1.trans r1, q2.trans r2, q3.trans r3⟩
  have at1 : pX (E ++ [(u, v, 0)] ++ [(w, q, 0)]) E.length = u ∧ pY (E ++ [(u, v, 0)] ++ [(w, q, 0)]) E.length = v ∧ pM (E ++ [(u, v, 0)] ++ [(w, q, 0)]) E.length = 0 := by
    obtain ⟨q1, q2, q3⟩ := (pX_app (L := E ++ [(u, v, 0)]) (p := (w, q, 0)) (i := E.length)).1 (by omega)
    obtain ⟨r1, r2, r3⟩ := (pX_app (L := E) (p := (u, v, 0)) (i := E.length)).2 rfl
    exact ⟨q1.trans r1, q2.trans r2, q3.trans r3⟩
  have at2 : pX (E ++ [(u, v, 0)] ++ [(w, q, 0)]) (E.length + 1) = w ∧ pY (E ++ [(u, v, 0)] ++ [(w, q, 0)]) (E.length + 1) = q ∧ pM (E ++ [(u, v, 0)] ++ [(w, q, 0)]) (E.length + 1) = 0 := (pX_app (L := E ++ [(u, v, 0)]) (p := (w, q, 0)) (i := E.length + 1)).2 (by omega)
  refine ⟨by rw [el, e33]; omega, by omega, by omega, fun i hi => ?_, fun l hl2 => ?_⟩
  · rw [el] at hi
    by_cases c : i < E.length
    · rw [(at0 i c).1, (at0 i c).2.1, (at0 i c).2.2]
      exact x4 i c
    · by_cases d : i = E.length
      · rw [d, at1.1, at1.2.1, at1.2.2]
        exact ⟨⟨hn.1, hn.2.1⟩, ⟨hn.2.2.1, hn.2.2.2⟩, by decide, by decide⟩
      · rw [show i = E.length + 1 by omega, at2.1, at2.2.1, at2.2.2]
        exact ⟨⟨hn2.1, hn2.2.1⟩, ⟨hn2.2.2.1, hn2.2.2.2⟩, by decide, by decide⟩
  · rw [el] at hl2
    rw [a14, a15, a16, a17]
    by_cases c : l < E.length / 2
    · rw [uI_n _ _ (by omega), uI_n _ _ (by omega), uI_n _ _ (by omega), uI_n _ _ (by omega), (at0 (2 * l) (by omega)).1, (at0 (2 * l) (by omega)).2.1, (at0 (2 * l + 1) (by omega)).1, (at0 (2 * l + 1) (by omega)).2.1]
      exact x5 l c
    · have e : l = E.length / 2 := by omega
      rw [e, uI_s, uI_s, uI_s, uI_s, show 2 * (E.length / 2) = E.length by omega, at1.1, at1.2.1, at2.1, at2.2.1]
      exact ⟨rfl, rfl, rfl, rfl⟩
/-- the pair of lines that cross at a place, and how many were found -/
def crI (E : PL) (p : Int) (l : Nat) (k : Nat → Int × Nat) : Nat → Nat → Nat → Int × Nat
  | 0, _, m => k m
  | f + 1, o, m => if lmE E l o then (if (m : Int) = p then (100 * (l : Int) + (o : Int), m) else crI E p l k f (o + 1) (m + 1)) else crI E p l k f (o + 1) m
def crO (E : PL) (p : Int) : Nat → Nat → Nat → Int × Nat
  | 0, _, m => (-1, m)
  | f + 1, l, m => crI E p l (crO E p f (l + 1)) (E.length / 2 - (l + 1)) (l + 1) m
theorem cr_ca_i {E : PL} {p : Int} {l : Nat} {k : Nat → Int × Nat} {k2 : Nat → Nat × Int} (hk : ∀ m, k2 m = if (k m).1 = -1 then (1, 0) else (0, (k m).1)) : ∀ f o m, caI E p l k2 f o m = if (crI E p l k f o m).1 = -1 then (1, 0) else (0, (crI E p l k f o m).1)
  | 0, _, m => hk m
  | f + 1, o, m => by
    unfold caI crI
    by_cases c : lmE E l o
    · rw [if_pos c, if_pos c]
      by_cases d : (m : Int) = p
      · rw [if_pos d, if_pos d, if_neg (show ¬ (100 * (l : Int) + (o : Int)) = -1 by omega)]
      · rw [if_neg d, if_neg d]
        exact cr_ca_i hk f (o + 1) (m + 1)
    · rw [if_neg c, if_neg c]
      exact cr_ca_i hk f (o + 1) m
theorem cr_ca {E : PL} {p : Int} : ∀ f l m, caO E p f l m = if (crO E p f l m).1 = -1 then (1, 0) else (0, (crO E p f l m).1)
  | 0, _, _ => by unfold caO crO; rw [if_pos rfl]
  | f + 1, l, m => cr_ca_i (fun m => cr_ca f (l + 1) m) _ _ _
theorem cr_ci {E : PL} {l : Nat} {k : Nat → Int × Nat} : ∀ (f c m : Nat), crI E (-1) l k f (l + 1 + c) (m + ciN E l c) = k (m + ciN E l (c + f))
  | 0, c, m => rfl
  | f + 1, c, m => by
    unfold crI
    by_cases w : lmE E l (l + 1 + c)
    · rw [if_pos w, if_neg (by omega)]
      have := cr_ci (E := E) (l := l) (k := k) f (c + 1) m
      rw [show ciN E l (c + 1) = ciN E l c + 1 from if_pos w] at this
      rw [show c + (f + 1) = c + 1 + f by omega]
      exact this
    · rw [if_neg w]
      have := cr_ci (E := E) (l := l) (k := k) f (c + 1) m
      rw [show ciN E l (c + 1) = ciN E l c from if_neg w] at this
      rw [show c + (f + 1) = c + 1 + f by omega]
      exact this
theorem cr_co {E : PL} : ∀ (f l : Nat), l + f = E.length / 2 → crO E (-1) f l (coN E l) = (-1, coN E (E.length / 2))
  | 0, l, h => by rw [← h]; rfl
  | f + 1, l, h => by
    have h1 := cr_ci (E := E) (l := l) (k := crO E (-1) f (l + 1)) (E.length / 2 - (l + 1)) 0 (coN E l)
    rw [show coN E l + ciN E l 0 = coN E l from rfl, show l + 1 + 0 = l + 1 from rfl, Nat.zero_add] at h1
    show crI E (-1) l (crO E (-1) f (l + 1)) (E.length / 2 - (l + 1)) (l + 1) (coN E l) = _
    rw [h1]
    exact cr_co f (l + 1) (by omega)
section MFIFTEEN
variable {G : g_X} {sc sc0 : Nat → Int} {ar : Nat → Nat → Int} {m : Nat} {h0 h : g_hp} {P E : PL} {S : Nat → PL} {b : Int} {P2 E2 : PL} {S2 : Nat → PL} {F : PL}
set_option maxRecDepth 20000 in
theorem M_line (X : mdX G sc0 ar m h0 h) (hR : mdR sc0 ar P E S b P2 E2 S2 F) {x : Int} (rx : r32 x) {y : Int} (ry : r32 y) {u : Int} (ru : r32 u) {v : Int} (rv : r32 v) : Run G mX8_line [.ref m, .int (iN x), .int (iN y), .int (iN u), .int (iN v)] none h 0 0 (mZ G (k_line E x y u v) P (s_line E x y u v) S b P2 E2 S2 F m h0) := by
  have rx1 := rx.1
  have rx2 := rx.2
  have ry1 := ry.1
  have ry2 := ry.2
  have ru1 := ru.1
  have ru2 := ru.2
  have rv1 := rv.1
  have rv2 := rv.2
  refine run_of rfl plX8 rfl ?_
  refine e_aload_n dX8_line_0 rfl ?_
  refine e_iconst dX8_line_1 ?_
  refine e_putf pfX8_1 X.obj rfl rfl rfl dX8_line_2 ?_
  refine X.pto (q := 0) (fun h9 X9 => ?_) rfl
  replace X := X9
  clear X9
  replace hR := hR.t0 0
  have ht : uI sc0 0 0 0 = 0 := uI_s _ _ _
  generalize uI sc0 0 0 = sc at X hR ht
  refine e_aload_n dX8_line_5 rfl ?_
  refine e_iload_n dX8_line_6 rfl ?_
  refine e_iload_n dX8_line_7 rfl ?_
  refine e_pureS qcX8_115 (S_isPlace rx ry) rfl rfl rfl rfl dX8_line_8 ?_
  
  by_cases c_n : (nrOK x y ∧ nrOK u v)
  · refine e_ifP_eq (tgt := 27) dX8_line_11 rfl (fun c_0 => absurd c_n.1 c_0) (fun c_0 => ?_)
    refine e_iload_n dX8_line_14 rfl ?_
    refine e_iload dX8_line_15 rfl ?_
    refine e_pureS qcX8_115 (S_isPlace ru rv) rfl rfl rfl rfl dX8_line_17 ?_
    refine e_ifP_eq (tgt := 27) dX8_line_20 rfl (fun c_0 => absurd c_n.2 c_0) (fun c_0 => ?_)
    refine e_iconst dX8_line_23 ?_
    refine e_top (bP (nrOK x y ∧ nrOK u v)) (bP_t c_n).symm ?_
    refine e_goto (tgt := 28) dX8_line_24 rfl ?_
    refine e_iconst dX8_line_28 ?_
    refine e_pureV qcX8_104 X.obj rfl rfl (S_fails_t X c_n ht) rfl rfl rfl rfl dX8_line_29 ?_
    refine e_if_ne (tgt := 57) ⟨by decide, by decide⟩ dX8_line_32 rfl (fun c_32 => absurd rfl c_32) (fun c_32 => ?_)
    refine e_aload_n dX8_line_35 rfl ?_
    refine e_aload_n dX8_line_36 rfl ?_
    refine e_getf fX8_281 X.obj rfl dX8_line_37 ?_
    have x1 := hR.2.1.1
    have x2 := hR.2.1.2.2.1
    rw [x1]
    refine e_bipush dX8_line_40 (by decide) ?_
    
    by_cases c_42 : E.length / 2 < 20
    · refine e_icmp_ge (tgt := 49) ⟨by omega, by omega⟩ ⟨by omega, by omega⟩ dX8_line_42 rfl (fun c_0 => absurd c_0 (by omega)) (fun c_0 => ?_)
      refine e_iconst dX8_line_45 ?_
      refine e_top (bP (E.length / 2 < 20)) (bP_t c_42).symm ?_
      refine e_goto (tgt := 50) dX8_line_46 rfl ?_
      refine e_iconst dX8_line_50 ?_
      refine e_pureV qcX8_104 X.obj rfl rfl (S_fails_t X c_42 ht) rfl rfl rfl rfl dX8_line_51 ?_
      refine e_if_eq (tgt := 59) ⟨by decide, by decide⟩ dX8_line_54 rfl (fun c_54 => ?_) (fun c_54 => absurd rfl c_54)
      refine e_aload_n dX8_line_59 rfl ?_
      refine e_getf fX8_57 X.obj rfl dX8_line_60 ?_
      refine e_aload_n dX8_line_63 rfl ?_
      refine e_getf fX8_281 X.obj rfl dX8_line_64 ?_
      rw [show sc 33 = ((E.length / 2 : Nat) : Int) from x1]
      refine e_iload_n dX8_line_67 rfl ?_
      refine e_iastore X.a14 (by omega) (by omega) rfl dX8_line_68 ?_
      refine X.sto14 (fun h9 X9 => ?_)
      replace X := X9
      clear X9
      refine e_aload_n dX8_line_69 rfl ?_
      refine e_getf fX8_60 X.obj rfl dX8_line_70 ?_
      refine e_aload_n dX8_line_73 rfl ?_
      refine e_getf fX8_281 X.obj rfl dX8_line_74 ?_
      rw [show sc 33 = ((E.length / 2 : Nat) : Int) from x1]
      refine e_iload_n dX8_line_77 rfl ?_
      refine e_iastore X.a15 (by omega) (by omega) rfl dX8_line_78 ?_
      refine X.sto15 (fun h9 X9 => ?_)
      replace X := X9
      clear X9
      refine e_aload_n dX8_line_79 rfl ?_
      refine e_getf fX8_63 X.obj rfl dX8_line_80 ?_
      refine e_aload_n dX8_line_83 rfl ?_
      refine e_getf fX8_281 X.obj rfl dX8_line_84 ?_
      rw [show sc 33 = ((E.length / 2 : Nat) : Int) from x1]
      refine e_iload_n dX8_line_87 rfl ?_
      refine e_iastore X.a16 (by omega) (by omega) rfl dX8_line_88 ?_
      refine X.sto16 (fun h9 X9 => ?_)
      replace X := X9
      clear X9
      refine e_aload_n dX8_line_89 rfl ?_
      refine e_getf fX8_66 X.obj rfl dX8_line_90 ?_
      refine e_aload_n dX8_line_93 rfl ?_
      refine e_getf fX8_281 X.obj rfl dX8_line_94 ?_
      rw [show sc 33 = ((E.length / 2 : Nat) : Int) from x1]
      refine e_iload dX8_line_97 rfl ?_
      refine e_iastore X.a17 (by omega) (by omega) rfl dX8_line_99 ?_
      refine X.sto17 (fun h9 X9 => ?_)
      replace X := X9
      clear X9
      refine e_aload_n dX8_line_100 rfl ?_
      refine e_dup dX8_line_101 rfl ?_
      refine e_getf fX8_281 X.obj rfl dX8_line_102 ?_
      rw [show sc 33 = ((E.length / 2 : Nat) : Int) from x1]
      refine e_iconst dX8_line_105 ?_
      refine e_iadd dX8_line_106 ?_
      refine e_putf pfX8_281 X.obj rfl rfl rfl dX8_line_107 ?_
      refine X.pto (q := 33) (fun h9 X9 => ?_) rfl
      replace X := X9
      clear X9
      refine e_aload_n dX8_line_110 rfl ?_
      refine e_getf fX8_281 X.obj rfl dX8_line_111 ?_
      rw [show uI sc 33 (((E.length / 2 : Nat) : Int) + 1) 33 = ((E.length / 2 : Nat) : Int) + 1 from rfl]
      refine e_iconst dX8_line_114 ?_
      refine e_isub dX8_line_115 ?_
      rw [show ((E.length / 2 : Nat) : Int) + 1 - 1 = ((E.length / 2 : Nat) : Int) by omega]
      refine e_iret rfl dX8_line_116 (by decide) (by decide) ?_
      have hE9 := hR.2.1.add c_42 c_n.1 c_n.2 (sc' := uI sc 33 (((E.length / 2 : Nat) : Int) + 1)) (ar' := uA (uA (uA (uA ar 14 (uI (ar 14) (E.length / 2) x)) 15 (uI (ar 15) (E.length / 2) y)) 16 (uI (ar 16) (E.length / 2) u)) 17 (uI (ar 17) (E.length / 2) v)) rfl rfl rfl rfl rfl
      exact mz (show (k_line E x y u v) = (0, ((E.length / 2 : Nat) : Int)) from (((if_pos c_n.1).trans (if_pos c_n.2)).trans (if_pos c_42))) ⟨rfl, rfl, _, _, X, (by rw [show s_line E x y u v = E ++ [(x, y, 0)] ++ [(u, v, 0)] from if_pos ⟨c_n.1, c_n.2, c_42⟩]; exact ⟨hR.1, hE9, hR.2.2.1, hR.2.2.2.1, hR.2.2.2.2⟩), ht⟩
    refine e_icmp_ge (tgt := 49) ⟨by omega, by omega⟩ ⟨by omega, by omega⟩ dX8_line_42 rfl (fun c_0 => ?_) (fun c_0 => absurd (by omega) c_0)
    refine e_iconst dX8_line_49 ?_
    refine e_top (bP (E.length / 2 < 20)) (bP_f c_42).symm ?_
    refine e_iconst dX8_line_50 ?_
    refine e_doesV qcX8_104 X.obj rfl rfl (S_fails_f X c_42 ht ⟨by decide, by decide⟩) rfl rfl rfl rfl dX8_line_51 ?_
    intro v h9 q9
    obtain ⟨rfl, X⟩ := q9
    refine e_if_eq (tgt := 59) ⟨by decide, by decide⟩ dX8_line_54 rfl (fun c_54 => absurd c_54 (by decide)) (fun c_54 => ?_)
    refine e_iconst dX8_line_57 ?_
    refine e_iret rfl dX8_line_58 (by decide) (by decide) ?_
    exact mz (show (k_line E x y u v) = (2, 0) from (((if_pos c_n.1).trans (if_pos c_n.2)).trans (if_neg c_42))) ⟨rfl, rfl, _, _, X, (by rw [show s_line E x y u v = E from if_neg (fun w => absurd w.2.2 c_42)]; exact hR.t0 _), uI_s _ _ _⟩
  refine e_ifP_eq (tgt := 27) dX8_line_11 rfl (fun c_11 => ?_) (fun c_11 => ?_)
  · refine e_iconst dX8_line_27 ?_
    refine e_top (bP (nrOK x y ∧ nrOK u v)) (bP_f c_n).symm ?_
    refine e_iconst dX8_line_28 ?_
    refine e_doesV qcX8_104 X.obj rfl rfl (S_fails_f X c_n ht ⟨by decide, by decide⟩) rfl rfl rfl rfl dX8_line_29 ?_
    intro v h9 q9
    obtain ⟨rfl, X⟩ := q9
    refine e_if_ne (tgt := 57) ⟨by decide, by decide⟩ dX8_line_32 rfl (fun c_32 => ?_) (fun c_32 => absurd (by decide) c_32)
    refine e_iconst dX8_line_57 ?_
    refine e_iret rfl dX8_line_58 (by decide) (by decide) ?_
    have e6 : (k_line E x y u v) = (1, 0) := by
      unfold k_line
      by_cases d : nrOK x y
      · rw [if_pos d, if_neg (fun w => c_n ⟨d, w⟩)]
      · rw [if_neg d]
    exact mz e6 ⟨rfl, rfl, _, _, X, (by rw [show s_line E x y u v = E from if_neg (fun w => c_n ⟨w.1, w.2.1⟩)]; exact hR.t0 _), uI_s _ _ _⟩
  · refine e_iload_n dX8_line_14 rfl ?_
    refine e_iload dX8_line_15 rfl ?_
    refine e_pureS qcX8_115 (S_isPlace ru rv) rfl rfl rfl rfl dX8_line_17 ?_
    refine e_ifP_eq (tgt := 27) dX8_line_20 rfl (fun c_20 => ?_) (fun c_20 => ?_)
    · refine e_iconst dX8_line_27 ?_
      refine e_top (bP (nrOK x y ∧ nrOK u v)) (bP_f c_n).symm ?_
      refine e_iconst dX8_line_28 ?_
      refine e_doesV qcX8_104 X.obj rfl rfl (S_fails_f X c_n ht ⟨by decide, by decide⟩) rfl rfl rfl rfl dX8_line_29 ?_
      intro v h9 q9
      obtain ⟨rfl, X⟩ := q9
      refine e_if_ne (tgt := 57) ⟨by decide, by decide⟩ dX8_line_32 rfl (fun c_32 => ?_) (fun c_32 => absurd (by decide) c_32)
      refine e_iconst dX8_line_57 ?_
      refine e_iret rfl dX8_line_58 (by decide) (by decide) ?_
      have e6 : (k_line E x y u v) = (1, 0) := by
        unfold k_line
        by_cases d : nrOK x y
        · rw [if_pos d, if_neg (fun w => c_n ⟨d, w⟩)]
        · rw [if_neg d]
      exact mz e6 ⟨rfl, rfl, _, _, X, (by rw [show s_line E x y u v = E from if_neg (fun w => c_n ⟨w.1, w.2.1⟩)]; exact hR.t0 _), uI_s _ _ _⟩
    · exact absurd ⟨c_11, c_20⟩ c_n
set_option maxRecDepth 20000 in
theorem M_clearLines (X : mdX G sc0 ar m h0 h) (hR : mdR sc0 ar P E S b P2 E2 S2 F) : Run G mX8_clearLines [.ref m] none h 0 0 (mZ G (0, ((E.length / 2 : Nat) : Int)) P [] S b P2 E2 S2 F m h0) := by
  refine run_of rfl plX8 rfl ?_
  refine e_aload_n dX8_clearLines_0 rfl ?_
  refine e_iconst dX8_clearLines_1 ?_
  refine e_putf pfX8_1 X.obj rfl rfl rfl dX8_clearLines_2 ?_
  refine X.pto (q := 0) (fun h9 X9 => ?_) rfl
  replace X := X9
  clear X9
  replace hR := hR.t0 0
  have ht : uI sc0 0 0 0 = 0 := uI_s _ _ _
  generalize uI sc0 0 0 = sc at X hR ht
  refine e_aload_n dX8_clearLines_5 rfl ?_
  refine e_getf fX8_281 X.obj rfl dX8_clearLines_6 ?_
  rw [hR.2.1.1]
  refine e_istore_n dX8_clearLines_9 rfl ?_
  refine e_aload_n dX8_clearLines_10 rfl ?_
  refine e_iconst dX8_clearLines_11 ?_
  refine e_putf pfX8_281 X.obj rfl rfl rfl dX8_clearLines_12 ?_
  refine X.pto (q := 33) (fun h9 X9 => ?_) rfl
  replace X := X9
  clear X9
  refine e_iload_n dX8_clearLines_15 rfl ?_
  refine e_iret rfl dX8_clearLines_16 (by decide) (by decide) ?_
  refine ⟨rfl, rfl, _, _, X, ⟨hR.1, ⟨rfl, rfl, Nat.zero_le _, fun i hi => absurd hi (Nat.not_lt_zero _), fun l hl => absurd hl (Nat.not_lt_zero _)⟩, hR.2.2.1, hR.2.2.2.1, hR.2.2.2.2⟩, ht⟩
set_option maxRecDepth 20000 in
theorem M_cross (X : mdX G sc0 ar m h0 h) (hR : mdR sc0 ar P E S b P2 E2 S2 F) {l : Int} (rl : r32 l) {p : Int} (rp : r32 p) : Run G mX8_cross [.ref m, .int (iN l), .int (iN p)] none h 0 0 (mZ G (k_cross E l p) P E S b P2 E2 S2 F m h0) := by
  have rl1 := rl.1
  have rl2 := rl.2
  have rp1 := rp.1
  have rp2 := rp.2
  refine run_of rfl plX8 rfl ?_
  refine e_aload_n dX8_cross_0 rfl ?_
  refine e_iconst dX8_cross_1 ?_
  refine e_putf pfX8_1 X.obj rfl rfl rfl dX8_cross_2 ?_
  refine X.pto (q := 0) (fun h9 X9 => ?_) rfl
  replace X := X9
  clear X9
  replace hR := hR.t0 0
  have ht : uI sc0 0 0 0 = 0 := uI_s _ _ _
  generalize uI sc0 0 0 = sc at X hR ht
  refine e_aload_n dX8_cross_5 rfl ?_
  refine e_iload_n dX8_cross_6 rfl ?_
  
  by_cases c_7 : lnOK E l
  · refine e_pureV qcX8_284 X.obj rfl rfl (S_noLine_t X hR.2.1 rl c_7 ht) rfl rfl rfl rfl dX8_cross_7 ?_
    refine e_if_ne (tgt := 34) ⟨by decide, by decide⟩ dX8_cross_10 rfl (fun c_10 => absurd rfl c_10) (fun c_10 => ?_)
    refine e_aload_n dX8_cross_13 rfl ?_
    refine e_iload_n dX8_cross_14 rfl ?_
    
    by_cases c_15 : lnOK E p
    · obtain ⟨n1, rfl⟩ : ∃ n1 : Nat, l = (n1 : Int) := ⟨l.toNat, by omega⟩
      obtain ⟨n2, rfl⟩ : ∃ n2 : Nat, p = (n2 : Int) := ⟨p.toNat, by omega⟩
      have hn1 := c_7.2
      have hn2 := c_15.2
      refine e_pureV qcX8_284 X.obj rfl rfl (S_noLine_t X hR.2.1 rp c_15 ht) rfl rfl rfl rfl dX8_cross_15 ?_
      refine e_if_ne (tgt := 34) ⟨by decide, by decide⟩ dX8_cross_18 rfl (fun c_18 => absurd rfl c_18) (fun c_18 => ?_)
      refine e_aload_n dX8_cross_21 rfl ?_
      refine e_iload_n dX8_cross_22 rfl ?_
      refine e_iload_n dX8_cross_23 rfl ?_
      refine e_doesV qcX8_287 X.obj rfl rfl (S_areCrossed X hR.2.1 (show n1 < E.length / 2 by omega) (show n2 < E.length / 2 by omega)) rfl rfl rfl rfl dX8_cross_24 ?_
      intro v h9 q9
      obtain ⟨rfl, sc2, X, hA⟩ := q9
      replace hR := hR.to (hA.wk (by decide) (by decide)) hR.2.2.2.2
      replace ht := (hA.1 0 (by decide)).trans ht
      refine e_ifP_eq (tgt := 34) dX8_cross_27 rfl (fun c_27 => ?_) (fun c_27 => ?_)
      · have e6 : (k_cross E (n1 : Int) (n2 : Int)) = (0, 0) := ((if_pos c_7).trans (if_pos c_15)).trans (congrArg (fun v => ((0 : Nat), v)) (bP_f c_27))
        refine e_iconst dX8_cross_34 ?_
        refine e_zret rfl (by first | exact Or.inl rfl | exact Or.inr rfl | exact bP_01 _) dX8_cross_35 (by decide) (by decide) ?_
        exact mz e6 ⟨rfl, rfl, _, _, X, hR, ht⟩
      · have e6 : (k_cross E (n1 : Int) (n2 : Int)) = (0, 1) := ((if_pos c_7).trans (if_pos c_15)).trans (congrArg (fun v => ((0 : Nat), v)) (bP_t c_27))
        refine e_iconst dX8_cross_30 ?_
        refine e_goto (tgt := 35) dX8_cross_31 rfl ?_
        refine e_zret rfl (by first | exact Or.inl rfl | exact Or.inr rfl | exact bP_01 _) dX8_cross_35 (by decide) (by decide) ?_
        exact mz e6 ⟨rfl, rfl, _, _, X, hR, ht⟩
    refine e_doesV qcX8_284 X.obj rfl rfl (S_noLine_f X hR.2.1 rp c_15 ht) rfl rfl rfl rfl dX8_cross_15 ?_
    intro v h9 q9
    obtain ⟨rfl, X⟩ := q9
    refine e_if_ne (tgt := 34) ⟨by decide, by decide⟩ dX8_cross_18 rfl (fun c_18 => ?_) (fun c_18 => absurd (by decide) c_18)
    refine e_iconst dX8_cross_34 ?_
    refine e_zret rfl (by first | exact Or.inl rfl | exact Or.inr rfl | exact bP_01 _) dX8_cross_35 (by decide) (by decide) ?_
    exact mz (show (k_cross E l p) = (1, 0) from ((if_pos c_7).trans (if_neg c_15))) ⟨rfl, rfl, _, _, X, hR.t0 _, uI_s _ _ _⟩
  refine e_doesV qcX8_284 X.obj rfl rfl (S_noLine_f X hR.2.1 rl c_7 ht) rfl rfl rfl rfl dX8_cross_7 ?_
  intro v h9 q9
  obtain ⟨rfl, X⟩ := q9
  refine e_if_ne (tgt := 34) ⟨by decide, by decide⟩ dX8_cross_10 rfl (fun c_10 => ?_) (fun c_10 => absurd (by decide) c_10)
  refine e_iconst dX8_cross_34 ?_
  refine e_zret rfl (by first | exact Or.inl rfl | exact Or.inr rfl | exact bP_01 _) dX8_cross_35 (by decide) (by decide) ?_
  exact mz (show (k_cross E l p) = (1, 0) from (if_neg c_7)) ⟨rfl, rfl, _, _, X, hR.t0 _, uI_s _ _ _⟩
set_option maxRecDepth 20000 in
theorem cr_inner {z : Option Nat} {R : Int × Nat} {p : Int} (rp : r32 p) {l : Nat} {kf : Nat → Int × Nat} (kk : ∀ sc1 h (c : Nat), mdX G sc1 ar m h0 h → mdE sc1 ar E → sc1 34 = (c : Int) → c ≤ 20 * (l + 1) → agr [17, 18, 19, 20, 21, 22, 23, 24, 34] [] sc ar sc1 ar → kf c = R → Ev (g_B G mX8_crossed 0 0 (fun o1 z1 h1 => ∃ v, o1 = .inl v ∧ z1 = z ∧ (fun v h1 => v = some (.int (iN R.1)) ∧ ∃ sc2, mdX G sc2 ar m h0 h1 ∧ sc2 34 = (R.2 : Int) ∧ agr [17, 18, 19, 20, 21, 22, 23, 24, 34] [] sc ar sc2 ar) v h1)) 0 0 z h 70 [(2, .int (iN (l : Nat))), (0, .ref m), (1, .int (iN p))] []) : ∀ (f o c : Nat) (sc1 : Nat → Int) (h : g_hp), mdX G sc1 ar m h0 h → mdE sc1 ar E → sc1 34 = (c : Int) → agr [17, 18, 19, 20, 21, 22, 23, 24, 34] [] sc ar sc1 ar → o + f = E.length / 2 → c + l + 1 ≤ 20 * l + o → l < o → crI E p l kf f o c = R → Ev (g_B G mX8_crossed 0 0 (fun o1 z1 h1 => ∃ v, o1 = .inl v ∧ z1 = z ∧ (fun v h1 => v = some (.int (iN R.1)) ∧ ∃ sc2, mdX G sc2 ar m h0 h1 ∧ sc2 34 = (R.2 : Int) ∧ agr [17, 18, 19, 20, 21, 22, 23, 24, 34] [] sc ar sc2 ar) v h1)) 0 0 z h 19 [(3, .int (iN (o : Nat))), (2, .int (iN (l : Nat))), (0, .ref m), (1, .int (iN p))] [] := by
  have rp1 := rp.1
  have rp2 := rp.2
  intro f
  induction f with
  | zero =>
    intro o c sc1 h X hE h34 hA hof hc hlo hR
    have x1 := hE.1
    have x2 := hE.2.2.1
    refine e_iload_n dX8_crossed_19 rfl ?_
    refine e_aload_n dX8_crossed_20 rfl ?_
    refine e_getf fX8_281 X.obj rfl dX8_crossed_21 ?_
    rw [x1]
    refine e_icmp_ge (tgt := 70) ⟨by omega, by omega⟩ ⟨by omega, by omega⟩ dX8_crossed_24 rfl (fun c_24 => ?_) (fun c_24 => absurd (by omega) c_24)
    exact e_loc [(2, .int (iN (l : Nat))), (0, .ref m), (1, .int (iN p))] ⟨rfl, rfl, rfl, trivial⟩ (kk _ _ c X hE h34 (by omega) hA hR)
  | succ f ih =>
    intro o c sc1 h X hE h34 hA hof hc hlo hR
    have x1 := hE.1
    have x2 := hE.2.2.1
    have ho : o < E.length / 2 := by omega
    unfold crI at hR
    refine e_iload_n dX8_crossed_19 rfl ?_
    refine e_aload_n dX8_crossed_20 rfl ?_
    refine e_getf fX8_281 X.obj rfl dX8_crossed_21 ?_
    rw [x1]
    refine e_icmp_ge (tgt := 70) ⟨by omega, by omega⟩ ⟨by omega, by omega⟩ dX8_crossed_24 rfl (fun c_24 => absurd c_24 (by omega)) (fun c_24 => ?_)
    refine e_aload_n dX8_crossed_27 rfl ?_
    refine e_iload_n dX8_crossed_28 rfl ?_
    refine e_iload_n dX8_crossed_29 rfl ?_
    refine e_doesV qcX8_287 X.obj rfl rfl (S_areCrossed X hE (show l < E.length / 2 by omega) ho) rfl rfl rfl rfl dX8_crossed_30 ?_
    intro v h9 q9
    obtain ⟨rfl, sc2, X, hB⟩ := q9
    replace h34 := (hB.1 34 (by decide)).trans h34
    replace hE := hE.to (hB.wk (by decide) (by decide))
    replace hA := hA.tr (hB.wk (by decide) (by decide))
    clear hB
    refine e_ifP_ne (tgt := 39) dX8_crossed_33 rfl (fun c_33 => ?_) (fun c_33 => ?_)
    · refine e_aload_n dX8_crossed_39 rfl ?_
      refine e_getf fX8_290 X.obj rfl dX8_crossed_40 ?_
      rw [h34]
      refine e_iload_n dX8_crossed_43 rfl ?_
      refine e_icmp_ne (tgt := 54) ⟨by omega, by omega⟩ ⟨by omega, by omega⟩ dX8_crossed_44 rfl (fun c_44 => ?_) (fun c_44 => ?_)
      · refine e_aload_n dX8_crossed_54 rfl ?_
        refine e_dup dX8_crossed_55 rfl ?_
        refine e_getf fX8_290 X.obj rfl dX8_crossed_56 ?_
        rw [h34]
        refine e_iconst dX8_crossed_59 ?_
        refine e_iadd dX8_crossed_60 ?_
        refine e_putf pfX8_290 X.obj rfl rfl rfl dX8_crossed_61 ?_
        refine X.pto (q := 34) (fun h9 X9 => ?_) rfl
        replace X := X9
        clear X9
        replace hE : mdE (uI sc2 34 ((c : Int) + 1)) ar E := hE.to (agr.rf.pk (by decide))
        replace hA := hA.pk (k := 34) (v := (c : Int) + 1) (by decide)
        replace h34 : uI sc2 34 ((c : Int) + 1) 34 = ((c + 1 : Nat) : Int) := rfl
        rw [if_pos c_33, if_neg c_44] at hR
        first | (rw [if_neg c_33] at hR; refine e_iinc dX8_crossed_64 rfl ?_; refine e_goto (tgt := 19) dX8_crossed_67 rfl ?_; exact e_loc [(3, .int (iN (o + 1 : Nat))), (2, .int (iN (l : Nat))), (0, .ref m), (1, .int (iN p))] ⟨rfl, rfl, rfl, rfl, trivial⟩ (ih (o + 1) c _ _ X hE h34 hA (by omega) (by omega) (by omega) hR)) | (refine e_iinc dX8_crossed_64 rfl ?_; refine e_goto (tgt := 19) dX8_crossed_67 rfl ?_; exact e_loc [(3, .int (iN (o + 1 : Nat))), (2, .int (iN (l : Nat))), (0, .ref m), (1, .int (iN p))] ⟨rfl, rfl, rfl, rfl, trivial⟩ (ih (o + 1) (c + 1) _ _ X hE h34 hA (by omega) (by omega) (by omega) hR))
      · refine e_bipush dX8_crossed_47 (by decide) ?_
        refine e_iload_n dX8_crossed_49 rfl ?_
        refine e_imul dX8_crossed_50 ?_
        refine e_iload_n dX8_crossed_51 rfl ?_
        refine e_iadd dX8_crossed_52 ?_
        refine e_iret rfl dX8_crossed_53 (by decide) (by decide) ?_
        exact ⟨_, rfl, rfl, by rw [← hR, if_pos c_33, if_pos (Decidable.of_not_not c_44)], _, X, by rw [← hR, if_pos c_33, if_pos (Decidable.of_not_not c_44)]; exact h34, hA⟩
    · refine e_goto (tgt := 64) dX8_crossed_36 rfl ?_
      first | (rw [if_neg c_33] at hR; refine e_iinc dX8_crossed_64 rfl ?_; refine e_goto (tgt := 19) dX8_crossed_67 rfl ?_; exact e_loc [(3, .int (iN (o + 1 : Nat))), (2, .int (iN (l : Nat))), (0, .ref m), (1, .int (iN p))] ⟨rfl, rfl, rfl, rfl, trivial⟩ (ih (o + 1) c _ _ X hE h34 hA (by omega) (by omega) (by omega) hR)) | (refine e_iinc dX8_crossed_64 rfl ?_; refine e_goto (tgt := 19) dX8_crossed_67 rfl ?_; exact e_loc [(3, .int (iN (o + 1 : Nat))), (2, .int (iN (l : Nat))), (0, .ref m), (1, .int (iN p))] ⟨rfl, rfl, rfl, rfl, trivial⟩ (ih (o + 1) (c + 1) _ _ X hE h34 hA (by omega) (by omega) (by omega) hR))
set_option maxRecDepth 20000 in
theorem cr_outer {z : Option Nat} {R : Int × Nat} {p : Int} (rp : r32 p) : ∀ (f l c : Nat) (sc1 : Nat → Int) (h : g_hp), mdX G sc1 ar m h0 h → mdE sc1 ar E → sc1 34 = (c : Int) → agr [17, 18, 19, 20, 21, 22, 23, 24, 34] [] sc ar sc1 ar → l + f = E.length / 2 → c ≤ 20 * l → crO E p f l c = R → Ev (g_B G mX8_crossed 0 0 (fun o1 z1 h1 => ∃ v, o1 = .inl v ∧ z1 = z ∧ (fun v h1 => v = some (.int (iN R.1)) ∧ ∃ sc2, mdX G sc2 ar m h0 h1 ∧ sc2 34 = (R.2 : Int) ∧ agr [17, 18, 19, 20, 21, 22, 23, 24, 34] [] sc ar sc2 ar) v h1)) 0 0 z h 7 [(2, .int (iN (l : Nat))), (0, .ref m), (1, .int (iN p))] [] := by
  intro f
  induction f with
  | zero =>
    intro l c sc1 h X hE h34 hA hlf hc hR
    have x1 := hE.1
    have x2 := hE.2.2.1
    refine e_iload_n dX8_crossed_7 rfl ?_
    refine e_aload_n dX8_crossed_8 rfl ?_
    refine e_getf fX8_281 X.obj rfl dX8_crossed_9 ?_
    rw [x1]
    refine e_icmp_ge (tgt := 76) ⟨by omega, by omega⟩ ⟨by omega, by omega⟩ dX8_crossed_12 rfl (fun c_12 => ?_) (fun c_12 => absurd (by omega) c_12)
    refine e_iconst dX8_crossed_76 ?_
    refine e_iret rfl dX8_crossed_77 (by decide) (by decide) ?_
    exact ⟨_, rfl, rfl, by rw [← hR]; rfl, _, X, by rw [← hR]; exact h34, hA⟩
  | succ f ih =>
    intro l c sc1 h X hE h34 hA hlf hc hR
    have x1 := hE.1
    have x2 := hE.2.2.1
    refine e_iload_n dX8_crossed_7 rfl ?_
    refine e_aload_n dX8_crossed_8 rfl ?_
    refine e_getf fX8_281 X.obj rfl dX8_crossed_9 ?_
    rw [x1]
    refine e_icmp_ge (tgt := 76) ⟨by omega, by omega⟩ ⟨by omega, by omega⟩ dX8_crossed_12 rfl (fun c_12 => absurd c_12 (by omega)) (fun c_12 => ?_)
    refine e_iload_n dX8_crossed_15 rfl ?_
    refine e_iconst dX8_crossed_16 ?_
    refine e_iadd dX8_crossed_17 ?_
    refine e_istore_n dX8_crossed_18 rfl ?_
    refine e_loc [(3, .int (iN (l + 1 : Nat))), (2, .int (iN (l : Nat))), (0, .ref m), (1, .int (iN p))] ⟨rfl, rfl, rfl, rfl, trivial⟩ (cr_inner rp (fun sc1 h c X hE h34 hc hA hR => ?_) _ (l + 1) c _ _ X hE h34 hA (by omega) (by omega) (by omega) hR)
    refine e_iinc dX8_crossed_70 rfl ?_
    refine e_goto (tgt := 7) dX8_crossed_73 rfl ?_
    exact e_loc [(2, .int (iN (l + 1 : Nat))), (0, .ref m), (1, .int (iN p))] ⟨rfl, rfl, rfl, trivial⟩ (ih (l + 1) c _ _ X hE h34 hA (by omega) hc hR)
set_option maxRecDepth 20000 in
theorem S_crossed (X : mdX G sc ar m h0 h) (hE : mdE sc ar E) {p : Int} (rp : r32 p) : Does G mX8_crossed [.ref m, .int (iN p)] h (fun v h1 => v = some (.int (iN (crO E p (E.length / 2) 0 0).1)) ∧ ∃ sc2, mdX G sc2 ar m h0 h1 ∧ sc2 34 = ((crO E p (E.length / 2) 0 0).2 : Int) ∧ agr [17, 18, 19, 20, 21, 22, 23, 24, 34] [] sc ar sc2 ar) := by
  intro z
  refine run_of rfl plX8 rfl ?_
  refine e_aload_n dX8_crossed_0 rfl ?_
  refine e_iconst dX8_crossed_1 ?_
  refine e_putf pfX8_290 X.obj rfl rfl rfl dX8_crossed_2 ?_
  refine X.pto (q := 34) (fun h9 X9 => ?_) rfl
  replace X := X9
  clear X9
  refine e_iconst dX8_crossed_5 ?_
  refine e_istore_n dX8_crossed_6 rfl ?_
  exact e_loc [(2, .int (iN (0 : Nat))), (0, .ref m), (1, .int (iN p))] ⟨rfl, rfl, rfl, trivial⟩ (cr_outer rp _ 0 0 _ _ X (hE.to (agr.rf.pk (by decide))) rfl (agr.rf.pk (by decide)) (Nat.zero_add _) (Nat.zero_le _) rfl)
set_option maxRecDepth 20000 in
theorem M_crossings (X : mdX G sc0 ar m h0 h) (hR : mdR sc0 ar P E S b P2 E2 S2 F) : Run G mX8_crossings [.ref m] none h 0 0 (mZ G (0, (coN E (E.length / 2) : Int)) P E S b P2 E2 S2 F m h0) := by
  refine run_of rfl plX8 rfl ?_
  refine e_aload_n dX8_crossings_0 rfl ?_
  refine e_iconst dX8_crossings_1 ?_
  refine e_putf pfX8_1 X.obj rfl rfl rfl dX8_crossings_2 ?_
  refine X.pto (q := 0) (fun h9 X9 => ?_) rfl
  replace X := X9
  clear X9
  replace hR := hR.t0 0
  have ht : uI sc0 0 0 0 = 0 := uI_s _ _ _
  generalize uI sc0 0 0 = sc at X hR ht
  refine e_aload_n dX8_crossings_5 rfl ?_
  refine e_iconst dX8_crossings_6 ?_
  refine e_doesV qcX8_293 X.obj rfl rfl (S_crossed X hR.2.1 (p := -1) ⟨by decide, by decide⟩) rfl rfl rfl rfl dX8_crossings_7 ?_
  intro v h9 q9
  obtain ⟨rfl, sc2, X, h34, hA⟩ := q9
  replace hR := hR.to (hA.wk (by decide) (by decide)) hR.2.2.2.2
  replace ht := (hA.1 0 (by decide)).trans ht
  refine e_istore_n dX8_crossings_10 rfl ?_
  refine e_aload_n dX8_crossings_11 rfl ?_
  refine e_getf fX8_290 X.obj rfl dX8_crossings_12 ?_
  rw [h34, show (crO E (-1) (E.length / 2) 0 0) = (-1, coN E (E.length / 2)) from cr_co _ 0 (Nat.zero_add _)]
  refine e_iret rfl dX8_crossings_15 (by decide) (by decide) ?_
  exact ⟨rfl, rfl, _, _, X, hR, ht⟩
theorem crI_bd {E : PL} {p : Int} {l : Nat} {k : Nat → Int × Nat} (hl : l ≤ 100) (hk : ∀ m, -1 ≤ (k m).1 ∧ (k m).1 ≤ 20000) : ∀ f o m, o + f ≤ 100 → -1 ≤ (crI E p l k f o m).1 ∧ (crI E p l k f o m).1 ≤ 20000
  | 0, _, m, _ => hk m
  | f + 1, o, m, h => by
    unfold crI
    split
    · split
      · show -1 ≤ 100 * (l : Int) + (o : Int) ∧ 100 * (l : Int) + (o : Int) ≤ 20000
        omega
      · exact crI_bd hl hk f (o + 1) (m + 1) (by omega)
    · exact crI_bd hl hk f (o + 1) m (by omega)
theorem crO_bd {E : PL} (hE : E.length ≤ 40) {p : Int} : ∀ f l m, l + f ≤ 20 → -1 ≤ (crO E p f l m).1 ∧ (crO E p f l m).1 ≤ 20000
  | 0, _, _, _ => ⟨by show (-1 : Int) ≤ -1; decide, by show (-1 : Int) ≤ 20000; decide⟩
  | f + 1, l, m, h => crI_bd (by omega) (fun m => crO_bd hE f (l + 1) m (by omega)) _ _ _ (by omega)
set_option maxRecDepth 20000 in
theorem M_crossingAt (X : mdX G sc0 ar m h0 h) (hR : mdR sc0 ar P E S b P2 E2 S2 F) {p : Int} (rp : r32 p) : Run G mX8_crossingAt [.ref m, .int (iN p)] none h 0 0 (mZ G (k_crossingAt E p) P E S b P2 E2 S2 F m h0) := by
  have rp1 := rp.1
  have rp2 := rp.2
  refine run_of rfl plX8 rfl ?_
  refine e_aload_n dX8_crossingAt_0 rfl ?_
  refine e_iconst dX8_crossingAt_1 ?_
  refine e_putf pfX8_1 X.obj rfl rfl rfl dX8_crossingAt_2 ?_
  refine X.pto (q := 0) (fun h9 X9 => ?_) rfl
  replace X := X9
  clear X9
  replace hR := hR.t0 0
  have ht : uI sc0 0 0 0 = 0 := uI_s _ _ _
  generalize uI sc0 0 0 = sc at X hR ht
  refine e_aload_n dX8_crossingAt_5 rfl ?_
  refine e_iload_n dX8_crossingAt_6 rfl ?_
  refine e_doesV qcX8_293 X.obj rfl rfl (S_crossed X hR.2.1 rp) rfl rfl rfl rfl dX8_crossingAt_7 ?_
  intro v h9 q9
  obtain ⟨rfl, sc2, X, h34, hA⟩ := q9
  replace hR := hR.to (hA.wk (by decide) (by decide)) hR.2.2.2.2
  replace ht := (hA.1 0 (by decide)).trans ht
  have x2 := hR.2.1.2.2.1
  have hb := crO_bd x2 (p := p) (E.length / 2) 0 0 (by omega)
  have e5 : k_crossingAt E p = _ := cr_ca (E := E) (p := p) (E.length / 2) 0 0
  refine e_istore_n dX8_crossingAt_10 rfl ?_
  refine e_aload_n dX8_crossingAt_11 rfl ?_
  refine e_iload_n dX8_crossingAt_12 rfl ?_
  refine e_iconst dX8_crossingAt_13 ?_
  
  by_cases c_14 : ¬ (crO E p (E.length / 2) 0 0).1 = -1
  · refine e_icmp_eq (tgt := 21) ⟨by omega, by omega⟩ ⟨by omega, by omega⟩ dX8_crossingAt_14 rfl (fun c_0 => absurd c_0 c_14) (fun c_0 => ?_)
    refine e_iconst dX8_crossingAt_17 ?_
    refine e_top (bP (¬ (crO E p (E.length / 2) 0 0).1 = -1)) (bP_t c_14).symm ?_
    refine e_goto (tgt := 22) dX8_crossingAt_18 rfl ?_
    refine e_iconst dX8_crossingAt_22 ?_
    refine e_pureV qcX8_104 X.obj rfl rfl (S_fails_t X c_14 ht) rfl rfl rfl rfl dX8_crossingAt_23 ?_
    refine e_if_eq (tgt := 33) ⟨by decide, by decide⟩ dX8_crossingAt_26 rfl (fun c_26 => ?_) (fun c_26 => absurd rfl c_26)
    refine e_iload_n dX8_crossingAt_33 rfl ?_
    refine e_iret rfl dX8_crossingAt_34 (by decide) (by decide) ?_
    exact mz (e5.trans (if_neg c_14)) ⟨rfl, rfl, _, _, X, hR, ht⟩
  refine e_icmp_eq (tgt := 21) ⟨by omega, by omega⟩ ⟨by omega, by omega⟩ dX8_crossingAt_14 rfl (fun c_0 => ?_) (fun c_0 => absurd c_0 c_14)
  refine e_iconst dX8_crossingAt_21 ?_
  refine e_top (bP (¬ (crO E p (E.length / 2) 0 0).1 = -1)) (bP_f c_14).symm ?_
  refine e_iconst dX8_crossingAt_22 ?_
  refine e_doesV qcX8_104 X.obj rfl rfl (S_fails_f X c_14 ht ⟨by decide, by decide⟩) rfl rfl rfl rfl dX8_crossingAt_23 ?_
  intro v h9 q9
  obtain ⟨rfl, X⟩ := q9
  refine e_if_eq (tgt := 33) ⟨by decide, by decide⟩ dX8_crossingAt_26 rfl (fun c_26 => absurd c_26 (by decide)) (fun c_26 => ?_)
  refine e_iconst dX8_crossingAt_29 ?_
  refine e_goto (tgt := 34) dX8_crossingAt_30 rfl ?_
  refine e_iret rfl dX8_crossingAt_34 (by decide) (by decide) ?_
  exact mz (e5.trans (if_pos (Decidable.of_not_not c_14))) ⟨rfl, rfl, _, _, X, hR.t0 _, uI_s _ _ _⟩
end MFIFTEEN
