/-! Parting: the first ear, the whole parting -/
noncomputable def fEa (L : PL) (w : Int) : Nat → Nat → Option Nat
  | 0, _ => none
  | f + 1, i => @ite _ (earP L w i) (Classical.propDecidable _) (some i) (fEa L w f (i + 1))
noncomputable def fE (L : PL) (w : Int) : Option Nat := fEa L w L.length 0
theorem fEa_lt {L : PL} {w : Int} {e : Nat} : ∀ (f i : Nat), fEa L w f i = some e → e < i + f
  | 0, _, h => by cases h
  | f + 1, i, h => by
    by_cases c : earP L w i
    · rw [show fEa L w (f + 1) i = some i from if_pos c] at h
      cases h
      omega
    · rw [show fEa L w (f + 1) i = fEa L w f (i + 1) from if_neg c] at h
      have := fEa_lt f (i + 1) h
      omega
theorem fE_lt {L : PL} {w : Int} {e : Nat} (h : fE L w = some e) : e < L.length := by
  have := fEa_lt L.length 0 h
  omega
def oI : Option Nat → Int
  | none => -1
  | some i => i
abbrev PT : Type := PL × List Int × Int
def parZ (L : PL) (T : List Int) (a : Int) : PT := if L.length = 3 then (L, T ++ [tri3 L 0 1 2], a + ab3 L 0 1 2) else (L, T, a)
noncomputable def parS (w : Int) (L : PL) (T : List Int) (a : Int) (k : PL → List Int → Int → PT) : PT := if 3 < L.length then (match fE L w with | none => (L, T, a) | some e => k (L.eraseIdx e) (T ++ [tri3 L (prv L.length e) e (nxt L.length e)]) (a + ab3 L (prv L.length e) e (nxt L.length e))) else parZ L T a
noncomputable def parF (w : Int) : Nat → PL → List Int → Int → PT
  | 0, L, T, a => parZ L T a
  | f + 1, L, T, a => parS w L T a (parF w f)
theorem parS_n {w : Int} {L : PL} {T : List Int} {a : Int} {k : PL → List Int → Int → PT} (h : 3 < L.length) (e : fE L w = none) : parS w L T a k = (L, T, a) := by unfold parS; rw [if_pos h, e]
theorem parS_s {w : Int} {L : PL} {T : List Int} {a : Int} {k : PL → List Int → Int → PT} {e : Nat} (h : 3 < L.length) (he : fE L w = some e) : parS w L T a k = k (L.eraseIdx e) (T ++ [tri3 L (prv L.length e) e (nxt L.length e)]) (a + ab3 L (prv L.length e) e (nxt L.length e)) := by unfold parS; rw [if_pos h, he]
theorem parS_z {w : Int} {L : PL} {T : List Int} {a : Int} {k : PL → List Int → Int → PT} (h : ¬ 3 < L.length) : parS w L T a k = parZ L T a := if_neg h
section PPART2
variable {G : g_X} {L : PL} {T : List Int} {a : Int} {p : Nat} {h : g_hp}
set_option maxRecDepth 20000 in
theorem fe_loop {z : Option Nat} (hp : parAt G L T a p h) {w : Int} (hw : -1 ≤ w ∧ w ≤ 1) : ∀ (n i : Nat), i + n = L.length → fEa L w n i = fE L w → Ev (g_B G mX2_firstEar 0 0 (fun o z1 h1 => o = .inl (some (.int (iN (oI (fE L w))))) ∧ z1 = z ∧ h1 = h)) 0 0 z h 2 [(2, .int (iN i)), (0, .ref p), (1, .int (iN w))] [] := by
  have hr := hp.row
  have h9 := hr.1
  have h8 := hr.2.1
  intro n
  induction n with
  | zero =>
    intro i hin hq
    have e9 : i = L.length := by omega
    subst e9
    refine e_iload_n dX2_firstEar_2 rfl ?_
    refine e_aload_n dX2_firstEar_3 rfl ?_
    refine e_getf fX2_14 hp.obj rfl dX2_firstEar_4 ?_
    refine e_pureV qcX2_48 hr.obj rfl rfl (S_size hr) rfl rfl rfl rfl dX2_firstEar_7 ?_
    refine e_icmp_ge (tgt := 30) ⟨by omega, by omega⟩ ⟨by omega, by omega⟩ dX2_firstEar_10 rfl (fun c_10 => ?_) (fun c_10 => absurd (Int.le_refl _) c_10)
    refine e_iconst dX2_firstEar_30 ?_
    refine e_iret rfl dX2_firstEar_31 (by decide) (by decide) ?_
    exact ⟨by rw [← hq]; rfl, rfl, rfl⟩
  | succ n ih =>
    intro i hin hq
    have hi : i < L.length := by omega
    letI : Decidable (earP L w i) := Classical.propDecidable _
    refine e_iload_n dX2_firstEar_2 rfl ?_
    refine e_aload_n dX2_firstEar_3 rfl ?_
    refine e_getf fX2_14 hp.obj rfl dX2_firstEar_4 ?_
    refine e_pureV qcX2_48 hr.obj rfl rfl (S_size hr) rfl rfl rfl rfl dX2_firstEar_7 ?_
    refine e_icmp_ge (tgt := 30) ⟨by omega, by omega⟩ ⟨by omega, by omega⟩ dX2_firstEar_10 rfl (fun c_10 => ?_) (fun c_10 => ?_)
    · exact absurd c_10 (by omega)
    · refine e_aload_n dX2_firstEar_13 rfl ?_
      refine e_iload_n dX2_firstEar_14 rfl ?_
      refine e_iload_n dX2_firstEar_15 rfl ?_
      refine e_pureV qcX2_82 hp.obj rfl rfl (S_isEar hp hw hi) rfl rfl rfl rfl dX2_firstEar_16 ?_
      refine e_ifP_eq (tgt := 24) dX2_firstEar_19 rfl (fun c_19 => ?_) (fun c_19 => ?_)
      · refine e_iinc dX2_firstEar_24 rfl ?_
        refine e_goto (tgt := 2) dX2_firstEar_27 rfl ?_
        exact e_loc [(2, .int (iN (i + 1 : Nat))), (0, .ref p), (1, .int (iN w))] ⟨rfl, rfl, rfl, trivial⟩ (ih (i + 1) (by omega) (by rw [← hq]; exact (if_neg c_19).symm))
      · refine e_iload_n dX2_firstEar_22 rfl ?_
        refine e_iret rfl dX2_firstEar_23 (by decide) (by decide) ?_
        exact ⟨by rw [← hq, show fEa L w (n + 1) i = some i from if_pos c_19]; rfl, rfl, rfl⟩
set_option maxRecDepth 20000 in
theorem S_firstEar (hp : parAt G L T a p h) {w : Int} (hw : -1 ≤ w ∧ w ≤ 1) : Pure G mX2_firstEar [.ref p, .int (iN w)] h (.int (iN (oI (fE L w)))) := by
  intro z
  refine run_of rfl plX2 rfl ?_
  refine e_iconst dX2_firstEar_0 ?_
  refine e_istore_n dX2_firstEar_1 rfl ?_
  exact e_loc [(2, .int (iN (0 : Nat))), (0, .ref p), (1, .int (iN w))] ⟨rfl, rfl, rfl, trivial⟩ (fe_loop hp hw L.length 0 (by omega) rfl)
theorem S_firstEarO (hp : parAt G L T a p h) {w : Int} (hw : -1 ≤ w ∧ w ≤ 1) {o : Option Nat} (ho : fE L w = o) : Pure G mX2_firstEar [.ref p, .int (iN w)] h (.int (iN (oI o))) := by
  rw [← ho]
  exact S_firstEar hp hw
set_option maxRecDepth 20000 in
theorem pa_end {z : Option Nat} {h1 : g_hp} {R : PT} (hp : parAt G L T a p h1) (hfr : g_fr p 6 h h1) (hT : T.length + L.length ≤ 16) (hq : parZ L T a = R) : Ev (g_B G mX2_part 0 0 (fun o z1 h1 => ∃ v, o = .inl v ∧ z1 = z ∧ (v = none ∧ parAt G R.1 R.2.1 R.2.2 p h1 ∧ g_fr p 6 h h1))) 0 0 z h1 98 [(0, .ref p)] [] := by
  have hr := hp.row
  refine e_aload_n dX2_part_98 rfl ?_
  refine e_getf fX2_14 hp.obj rfl dX2_part_99 ?_
  refine e_pureV qcX2_48 hr.obj rfl rfl (S_size hr) rfl rfl rfl rfl dX2_part_102 ?_
  refine e_iconst dX2_part_105 ?_
  refine e_icmp_ne (tgt := 116) ⟨by omega, by omega⟩ ⟨by omega, by omega⟩ dX2_part_106 rfl (fun c_106 => ?_) (fun c_106 => ?_)
  · refine e_vret rfl dX2_part_116 (by decide) (by decide) ?_
    first | exact ⟨none, rfl, rfl, rfl, by rw [← hq, show parZ L T a = _ from if_pos (by omega)]; exact g2, hfr.tr fr2⟩ | exact ⟨none, rfl, rfl, rfl, by rw [← hq, show parZ L T a = _ from if_neg (by omega)]; exact hp, hfr⟩
  · refine e_aload_n dX2_part_109 rfl ?_
    refine e_iconst dX2_part_110 ?_
    refine e_iconst dX2_part_111 ?_
    refine e_iconst dX2_part_112 ?_
    refine e_doesV qcX2_62 hp.obj rfl rfl (S_keepTriangle (i := 0) (j := 1) (k := 2) hp (by omega) (by omega) (by omega) (by omega)) rfl rfl rfl rfl dX2_part_113 ?_
    intro v h2 q2
    obtain ⟨rfl, g2, fr2⟩ := q2
    refine e_vret rfl dX2_part_116 (by decide) (by decide) ?_
    first | exact ⟨none, rfl, rfl, rfl, by rw [← hq, show parZ L T a = _ from if_pos (by omega)]; exact g2, hfr.tr fr2⟩ | exact ⟨none, rfl, rfl, rfl, by rw [← hq, show parZ L T a = _ from if_neg (by omega)]; exact hp, hfr⟩
set_option maxRecDepth 20000 in
theorem pa_loop {z : Option Nat} {R : PT} {w : Int} (hw : -1 ≤ w ∧ w ≤ 1) : ∀ (f i : Nat) (L : PL) (T : List Int) (a : Int) (h1 : g_hp), i + f = 16 → parAt G L T a p h1 → g_fr p 6 h h1 → T.length + L.length ≤ 16 → parF w f L T a = R → Ev (g_B G mX2_part 0 0 (fun o z1 h1 => ∃ v, o = .inl v ∧ z1 = z ∧ (v = none ∧ parAt G R.1 R.2.1 R.2.2 p h1 ∧ g_fr p 6 h h1))) 0 0 z h1 29 [(3, .int (iN i)), (2, .int (iN w)), (0, .ref p)] [] := by
  intro f
  induction f with
  | zero =>
    intro i L T a h1 hif hp hfr hT hq
    have e9 : i = 16 := by omega
    subst e9
    refine e_iload_n dX2_part_29 rfl ?_
    refine e_bipush dX2_part_30 (by decide) ?_
    refine e_icmp_ge (tgt := 98) ⟨by decide, by decide⟩ ⟨by decide, by decide⟩ dX2_part_32 rfl (fun c_32 => ?_) (fun c_32 => absurd (by decide) c_32)
    exact e_loc [(0, .ref p)] ⟨rfl, trivial⟩ (pa_end hp hfr hT hq)
  | succ f ih =>
    intro i L T a h1 hif hp hfr hT hq
    have hr := hp.row
    have h9 := hr.1
    rcases hE : fE L w with _ | e
    · refine e_iload_n dX2_part_29 rfl ?_
      refine e_bipush dX2_part_30 (by decide) ?_
      refine e_icmp_ge (tgt := 98) ⟨by omega, by omega⟩ ⟨by omega, by omega⟩ dX2_part_32 rfl (fun c_32 => ?_) (fun c_32 => ?_)
      · exact absurd c_32 (by omega)
      · refine e_aload_n dX2_part_35 rfl ?_
        refine e_getf fX2_14 hp.obj rfl dX2_part_36 ?_
        refine e_pureV qcX2_48 hr.obj rfl rfl (S_size hr) rfl rfl rfl rfl dX2_part_39 ?_
        refine e_iconst dX2_part_42 ?_
        refine e_icmp_le (tgt := 98) ⟨by omega, by omega⟩ ⟨by omega, by omega⟩ dX2_part_43 rfl (fun c_43 => ?_) (fun c_43 => ?_)
        · exact e_loc [(0, .ref p)] ⟨rfl, trivial⟩ (pa_end hp hfr hT ((parS_z (k := parF w f) (show ¬ 3 < L.length by omega)).symm.trans hq))
        · refine e_aload_n dX2_part_46 rfl ?_
          refine e_iload_n dX2_part_47 rfl ?_
          refine e_pureV qcX2_52 hp.obj rfl rfl (S_firstEarO hp hw hE) rfl rfl rfl rfl dX2_part_48 ?_
          refine e_istore dX2_part_51 rfl ?_
          refine e_iload dX2_part_53 rfl ?_
          refine e_if_ge (tgt := 59) (x := -1) ⟨by decide, by decide⟩ dX2_part_55 rfl (fun c_55 => absurd c_55 (by decide)) (fun c_55 => ?_)
          refine e_vret rfl dX2_part_58 (by decide) (by decide) ?_
          exact ⟨none, rfl, rfl, rfl, by rw [← hq, show parF w (f + 1) L T a = _ from parS_n (show 3 < L.length by omega) hE]; exact hp, hfr⟩
    · have he := fE_lt hE
      have hpe := prv_lt he
      have hne := nxt_lt he
      refine e_iload_n dX2_part_29 rfl ?_
      refine e_bipush dX2_part_30 (by decide) ?_
      refine e_icmp_ge (tgt := 98) ⟨by omega, by omega⟩ ⟨by omega, by omega⟩ dX2_part_32 rfl (fun c_32 => ?_) (fun c_32 => ?_)
      · exact absurd c_32 (by omega)
      · refine e_aload_n dX2_part_35 rfl ?_
        refine e_getf fX2_14 hp.obj rfl dX2_part_36 ?_
        refine e_pureV qcX2_48 hr.obj rfl rfl (S_size hr) rfl rfl rfl rfl dX2_part_39 ?_
        refine e_iconst dX2_part_42 ?_
        refine e_icmp_le (tgt := 98) ⟨by omega, by omega⟩ ⟨by omega, by omega⟩ dX2_part_43 rfl (fun c_43 => ?_) (fun c_43 => ?_)
        · exact e_loc [(0, .ref p)] ⟨rfl, trivial⟩ (pa_end hp hfr hT ((parS_z (k := parF w f) (show ¬ 3 < L.length by omega)).symm.trans hq))
        · refine e_aload_n dX2_part_46 rfl ?_
          refine e_iload_n dX2_part_47 rfl ?_
          refine e_pureV qcX2_52 hp.obj rfl rfl (S_firstEarO hp hw hE) rfl rfl rfl rfl dX2_part_48 ?_
          refine e_istore dX2_part_51 rfl ?_
          refine e_iload dX2_part_53 rfl ?_
          refine e_if_ge (tgt := 59) (x := (e : Int)) ⟨by omega, by omega⟩ dX2_part_55 rfl (fun c_55 => ?_) (fun c_55 => absurd (show (0 : Int) ≤ (e : Int) by omega) c_55)
          refine e_aload_n dX2_part_59 rfl ?_
          refine e_aload_n dX2_part_60 rfl ?_
          refine e_getf fX2_14 hp.obj rfl dX2_part_61 ?_
          refine e_iload dX2_part_64 rfl ?_
          refine e_pureV qcX2_56 hr.obj rfl rfl (S_previous hr he) rfl rfl rfl rfl dX2_part_66 ?_
          refine e_iload dX2_part_69 rfl ?_
          refine e_aload_n dX2_part_71 rfl ?_
          refine e_getf fX2_14 hp.obj rfl dX2_part_72 ?_
          refine e_iload dX2_part_75 rfl ?_
          refine e_pureV qcX2_59 hr.obj rfl rfl (S_next hr he) rfl rfl rfl rfl dX2_part_77 ?_
          refine e_doesV qcX2_62 hp.obj rfl rfl (S_keepTriangle hp (by omega) hpe he hne) rfl rfl rfl rfl dX2_part_80 ?_
          intro v h2 q2
          obtain ⟨rfl, hp2, fr2⟩ := q2
          have hr2 := hp2.row
          refine e_aload_n dX2_part_83 rfl ?_
          refine e_getf fX2_14 hp2.obj rfl dX2_part_84 ?_
          refine e_iload dX2_part_87 rfl ?_
          refine e_doesV qcX2_66 hr2.obj rfl rfl (S_remove hr2 he) rfl rfl rfl rfl dX2_part_89 ?_
          intro v h3 q3
          obtain ⟨rfl, g3, fr3⟩ := q3
          refine e_iinc dX2_part_92 rfl ?_
          refine e_goto (tgt := 29) dX2_part_95 rfl ?_
          exact e_loc [(3, .int (iN (i + 1 : Nat))), (2, .int (iN w)), (0, .ref p)] ⟨rfl, rfl, rfl, trivial⟩ (ih (i + 1) (L.eraseIdx e) _ _ h3 (by omega) (hp2.wr g3 fr3) (hfr.tr (fr2.tr (fr3.wd (by omega) (by omega)))) (by rw [List.length_append, List.length_eraseIdx, if_pos he]; show T.length + 1 + _ ≤ 16; omega) (by rw [← hq]; exact (parS_s (k := parF w f) (show 3 < L.length by omega) hE).symm))
set_option maxRecDepth 20000 in
theorem S_part {N2 r : Nat} {L2 : PL} (hp : parAt G L T a p h) (h2r : rowAt G N2 L2 r h) (hd : p + 6 ≤ r ∨ r + 4 ≤ p) (hl : L2.length ≤ 16) : Does G mX2_part [.ref p, .ref r] h (fun v h1 => v = none ∧ parAt G (parF (sg (da L2)) 16 L2 [] 0).1 (parF (sg (da L2)) 16 L2 [] 0).2.1 (parF (sg (da L2)) 16 L2 [] 0).2.2 p h1 ∧ g_fr p 6 h h1) := by
  have hr := hp.row
  have sb := sg_bd (da L2)
  have db := da_bd h2r.2.2.1 (by omega)
  intro z
  refine run_of rfl plX2 rfl ?_
  refine e_aload_n dX2_part_0 rfl ?_
  refine e_getf fX2_14 hp.obj rfl dX2_part_1 ?_
  refine e_aload_n dX2_part_4 rfl ?_
  refine e_doesV qcX2_32 hr.obj rfl rfl (S_copyFrom hr h2r (by omega) hl) rfl rfl rfl rfl dX2_part_5 ?_
  intro v h1 q1
  obtain ⟨rfl, g1, fr1⟩ := q1
  have hp1 := hp.wr g1 fr1
  have h3r := h2r.off fr1 (by omega)
  refine e_aload_n dX2_part_8 rfl ?_
  refine e_iconst dX2_part_9 ?_
  refine e_putf pfX2_24 hp1.obj rfl rfl rfl dX2_part_10 ?_
  refine e_aload_n dX2_part_13 rfl ?_
  refine e_lconst dX2_part_14 ?_
  refine e_putf pfX2_28 (g_up_s _ _ _) rfl rfl rfl dX2_part_15 ?_
  refine (show Ev _ 0 0 z (g_up (g_up h1 p (.inr (1, [.ref (p + 1), .ref (p + 5), .int (iN 0), .long (lI a)]))) p (.inr (1, [.ref (p + 1), .ref (p + 5), .int (iN 0), .long (lI 0)]))) 18 _ _ from ?_)
  have hp3 : parAt G L2 [] 0 p (g_up (g_up h1 p (.inr (1, [.ref (p + 1), .ref (p + 5), .int (iN 0), .long (lI a)]))) p (.inr (1, [.ref (p + 1), .ref (p + 5), .int (iN 0), .long (lI 0)]))) := by
    obtain ⟨g, ⟨b1, b2⟩, b3, b4⟩ := hp1
    exact ⟨g, ⟨g_up_s _ _ _, (g_up_n _ _ (by omega)).trans ((g_up_n _ _ (by omega)).trans b2)⟩, fun i hi => absurd hi (by show ¬ i < 0; omega), b4.kept (fun b h0 h2 => (g_up_n _ _ (by omega)).trans (g_up_n _ _ (by omega)))⟩
  have fr3 : g_fr p 6 h (g_up (g_up h1 p (.inr (1, [.ref (p + 1), .ref (p + 5), .int (iN 0), .long (lI a)]))) p (.inr (1, [.ref (p + 1), .ref (p + 5), .int (iN 0), .long (lI 0)]))) := ((fr1.wd (by omega) (by omega)).up (by omega) (by omega)).up (by omega) (by omega)
  have h4r : rowAt G N2 L2 r (g_up (g_up h1 p (.inr (1, [.ref (p + 1), .ref (p + 5), .int (iN 0), .long (lI a)]))) p (.inr (1, [.ref (p + 1), .ref (p + 5), .int (iN 0), .long (lI 0)]))) := h3r.kept (fun b h0 h2 => (g_up_n _ _ (by omega)).trans (g_up_n _ _ (by omega)))
  generalize (g_up (g_up h1 p (.inr (1, [.ref (p + 1), .ref (p + 5), .int (iN 0), .long (lI a)]))) p (.inr (1, [.ref (p + 1), .ref (p + 5), .int (iN 0), .long (lI 0)]))) = h2 at hp3 fr3 h4r ⊢
  refine e_aload_n dX2_part_18 rfl ?_
  refine e_pureS qcX2_36 (S_doubledArea h4r) rfl rfl rfl rfl dX2_part_19 ?_
  refine e_i2l ⟨by omega, by omega⟩ dX2_part_22 ?_
  refine e_pureS qcX2_42 (S_signOf ⟨by omega, by omega⟩) rfl rfl rfl rfl dX2_part_23 ?_
  refine e_istore_n dX2_part_26 rfl ?_
  refine e_iconst dX2_part_27 ?_
  refine e_istore_n dX2_part_28 rfl ?_
  exact e_loc [(3, .int (iN (0 : Nat))), (2, .int (iN (sg (da L2)))), (0, .ref p)] ⟨rfl, rfl, rfl, trivial⟩ (pa_loop sb 16 0 L2 [] 0 h2 (by omega) hp3 fr3 (by show 0 + L2.length ≤ 16; omega) rfl)
end PPART2
