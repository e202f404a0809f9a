/-! Parting -/
theorem plX2 : plainName RX2 = true := by decide +kernel
/-- the six cells of a parting: what is left, the triangles told, the doubled areas -/
def parO (G : g_X) (T : List Int) (a : Int) (g : Nat → Int) (p : Nat) (h : g_hp) : Prop := h p = some (.inr (1, [.ref (p + 1), .ref (p + 5), .int (iN T.length), .long (lI a)])) ∧ h (p + 5) = some (aI G 16 g)
def parAt (G : g_X) (L : PL) (T : List Int) (a : Int) (p : Nat) (h : g_hp) : Prop := ∃ g : Nat → Int, parO G T a g p h ∧ (∀ i, i < T.length → g i = T.getD i 0) ∧ rowAt G 16 L (p + 1) h
theorem parAt.kept {G : g_X} {L : PL} {T : List Int} {a : Int} {p : Nat} {h h1 : g_hp} (x : parAt G L T a p h) (k : ∀ b, p ≤ b → b < p + 6 → h1 b = h b) : parAt G L T a p h1 := by
  obtain ⟨g, ⟨a1, a2⟩, a3, a4⟩ := x
  exact ⟨g, ⟨(k p (by omega) (by omega)).trans a1, (k (p + 5) (by omega) (by omega)).trans a2⟩, a3, a4.kept (fun b h0 h2 => k b (by omega) (by omega))⟩
theorem parAt.off {G : g_X} {L : PL} {T : List Int} {a : Int} {p b w : Nat} {h h1 : g_hp} (x : parAt G L T a p h) (f : g_fr b w h h1) (d : p + 6 ≤ b ∨ b + w ≤ p) : parAt G L T a p h1 := x.kept (fun c h0 h2 => f c (by omega))
theorem parAt.obj {G : g_X} {L : PL} {T : List Int} {a : Int} {p : Nat} {h : g_hp} (x : parAt G L T a p h) : h p = some (.inr (1, [.ref (p + 1), .ref (p + 5), .int (iN T.length), .long (lI a)])) := by
  obtain ⟨g, a1, -⟩ := x
  exact a1.1
theorem parAt.row {G : g_X} {L : PL} {T : List Int} {a : Int} {p : Nat} {h : g_hp} (x : parAt G L T a p h) : rowAt G 16 L (p + 1) h := by
  obtain ⟨g, a1, a2, a3⟩ := x
  exact a3
/-- .. when the row inside alone is written -/
theorem parAt.wr {G : g_X} {L L2 : PL} {T : List Int} {a : Int} {p : Nat} {h h1 : g_hp} (x : parAt G L T a p h) (y : rowAt G 16 L2 (p + 1) h1) (f : g_fr (p + 1) 4 h h1) : parAt G L2 T a p h1 := by
  obtain ⟨g, ⟨a1, a2⟩, a3, a4⟩ := x
  exact ⟨g, ⟨(f p (by omega)).trans a1, (f (p + 5) (by omega)).trans a2⟩, a3, y⟩
abbrev tri3 (L : PL) (a b c : Nat) : Int := 10000 * pM L a + 100 * pM L b + pM L c
abbrev ab3 (L : PL) (a b c : Nat) : Int := ((tw3 L a b L c).natAbs : Int)
theorem getD_app {T : List Int} {v : Int} {i : Nat} : (i < T.length → (T ++ [v]).getD i 0 = T.getD i 0) ∧ (i = T.length → (T ++ [v]).getD i 0 = v) := by
  constructor
  · intro h
    simp [List.getD, List.getElem?_append_left h]
  · intro h
    subst h
    simp [List.getD]
section PPART
variable {G : g_X} {L : PL} {T : List Int} {a : Int} {p : Nat} {h : g_hp}
set_option maxRecDepth 20000 in
theorem S_made (hp : parAt G L T a p h) : Pure G mX2_made [.ref p] h (.int (iN T.length)) := by
  intro z
  refine run_of rfl plX2 rfl ?_
  refine e_aload_n dX2_made_0 rfl ?_
  refine e_getf fX2_24 hp.obj rfl dX2_made_1 ?_
  refine e_iret rfl dX2_made_4 (by decide) (by decide) ?_
  exact ⟨rfl, rfl, rfl⟩
set_option maxRecDepth 20000 in
theorem S_areas (hp : parAt G L T a p h) : Pure G mX2_doubledAreas [.ref p] h (.long (lI a)) := by
  intro z
  refine run_of rfl plX2 rfl ?_
  refine e_aload_n dX2_doubledAreas_0 rfl ?_
  refine e_getf fX2_28 hp.obj rfl dX2_doubledAreas_1 ?_
  refine e_lret rfl dX2_doubledAreas_4 (by decide) (by decide) ?_
  exact ⟨rfl, rfl, rfl⟩
set_option maxRecDepth 20000 in
theorem S_tellTriangle (hp : parAt G L T a p h) {i : Nat} (hi : i < T.length) (hT : T.length ≤ 16) : Pure G mX2_tellTriangle [.ref p, .int (iN i)] h (.int (iN (T.getD i 0))) := by
  obtain ⟨g, ⟨a1, a2⟩, a3, a4⟩ := hp
  rw [← a3 i hi]
  intro z
  refine run_of rfl plX2 rfl ?_
  refine e_iload_n dX2_tellTriangle_0 rfl ?_
  refine e_if_lt (tgt := 22) ⟨by omega, by omega⟩ dX2_tellTriangle_1 rfl (fun c_1 => ?_) (fun c_1 => ?_)
  · exact absurd c_1 (by omega)
  · refine e_iload_n dX2_tellTriangle_4 rfl ?_
    refine e_aload_n dX2_tellTriangle_5 rfl ?_
    refine e_getf fX2_20 a1 rfl dX2_tellTriangle_6 ?_
    refine e_alenI a2 dX2_tellTriangle_9 ?_
    refine e_icmp_ge (tgt := 22) ⟨by omega, by omega⟩ ⟨by omega, by omega⟩ dX2_tellTriangle_10 rfl (fun c_10 => ?_) (fun c_10 => ?_)
    · exact absurd c_10 (by omega)
    · refine e_aload_n dX2_tellTriangle_13 rfl ?_
      refine e_getf fX2_20 a1 rfl dX2_tellTriangle_14 ?_
      refine e_iload_n dX2_tellTriangle_17 rfl ?_
      refine e_iaload a2 (by omega) (by omega) rfl dX2_tellTriangle_18 ?_
      refine e_goto (tgt := 23) dX2_tellTriangle_19 rfl ?_
      refine e_iret rfl dX2_tellTriangle_23 (by decide) (by decide) ?_
      exact ⟨rfl, rfl, rfl⟩
set_option maxRecDepth 20000 in
theorem S_keepTriangle (hp : parAt G L T a p h) (hT : T.length < 16) {i j k : Nat} (hi : i < L.length) (hj : j < L.length) (hk : k < L.length) : Does G mX2_keepTriangle [.ref p, .int (iN i), .int (iN j), .int (iN k)] h (fun v h1 => v = none ∧ parAt G L (T ++ [tri3 L i j k]) (a + ab3 L i j k) p h1 ∧ g_fr p 6 h h1) := by
  obtain ⟨g, ⟨a1, a2⟩, a3, hr⟩ := hp
  have tb := tw3_bd hr.2.2.1 hr.2.2.1 hi hj hk
  intro z
  refine run_of rfl plX2 rfl ?_
  refine e_aload_n dX2_keepTriangle_0 rfl ?_
  refine e_getf fX2_24 a1 rfl dX2_keepTriangle_1 ?_
  refine e_aload_n dX2_keepTriangle_4 rfl ?_
  refine e_getf fX2_20 a1 rfl dX2_keepTriangle_5 ?_
  refine e_alenI a2 dX2_keepTriangle_8 ?_
  refine e_icmp_ge (tgt := 64) ⟨by omega, by omega⟩ ⟨by omega, by omega⟩ dX2_keepTriangle_9 rfl (fun c_9 => ?_) (fun c_9 => ?_)
  · exact absurd c_9 (by omega)
  · refine e_aload_n dX2_keepTriangle_12 rfl ?_
    refine e_getf fX2_20 a1 rfl dX2_keepTriangle_13 ?_
    refine e_aload_n dX2_keepTriangle_16 rfl ?_
    refine e_getf fX2_24 a1 rfl dX2_keepTriangle_17 ?_
    refine e_sipush dX2_keepTriangle_20 (by decide) ?_
    refine e_aload_n dX2_keepTriangle_23 rfl ?_
    refine e_getf fX2_14 a1 rfl dX2_keepTriangle_24 ?_
    refine e_iload_n dX2_keepTriangle_27 rfl ?_
    refine e_pureV qcX2_69 hr.obj rfl rfl (S_markAt hr hi) rfl rfl rfl rfl dX2_keepTriangle_28 ?_
    refine e_imul dX2_keepTriangle_31 ?_
    refine e_bipush dX2_keepTriangle_32 (by decide) ?_
    refine e_aload_n dX2_keepTriangle_34 rfl ?_
    refine e_getf fX2_14 a1 rfl dX2_keepTriangle_35 ?_
    refine e_iload_n dX2_keepTriangle_38 rfl ?_
    refine e_pureV qcX2_69 hr.obj rfl rfl (S_markAt hr hj) rfl rfl rfl rfl dX2_keepTriangle_39 ?_
    refine e_imul dX2_keepTriangle_42 ?_
    refine e_iadd dX2_keepTriangle_43 ?_
    refine e_aload_n dX2_keepTriangle_44 rfl ?_
    refine e_getf fX2_14 a1 rfl dX2_keepTriangle_45 ?_
    refine e_iload_n dX2_keepTriangle_48 rfl ?_
    refine e_pureV qcX2_69 hr.obj rfl rfl (S_markAt hr hk) rfl rfl rfl rfl dX2_keepTriangle_49 ?_
    refine e_iadd dX2_keepTriangle_52 ?_
    refine e_iastore a2 (by omega) (by omega) rfl dX2_keepTriangle_53 ?_
    refine (show Ev _ 0 0 z (g_up h (p + 5) (aI G 16 (uI g T.length (tri3 L i j k)))) 54 _ _ from ?_)
    have b1 : (g_up h (p + 5) (aI G 16 (uI g T.length (tri3 L i j k)))) p = some (.inr (1, [.ref (p + 1), .ref (p + 5), .int (iN T.length), .long (lI a)])) := (g_up_n _ _ (by omega)).trans a1
    have b2 : (g_up h (p + 5) (aI G 16 (uI g T.length (tri3 L i j k)))) (p + 5) = some (aI G 16 (uI g T.length (tri3 L i j k))) := g_up_s _ _ _
    have f1 : g_fr p 6 h (g_up h (p + 5) (aI G 16 (uI g T.length (tri3 L i j k)))) := g_fr.rf.up (by omega) (by omega)
    have hr1 : rowAt G 16 L (p + 1) (g_up h (p + 5) (aI G 16 (uI g T.length (tri3 L i j k)))) := hr.kept (fun b h0 h2 => g_up_n _ _ (by omega))
    generalize g_up h (p + 5) (aI G 16 (uI g T.length (tri3 L i j k))) = h1 at b1 b2 f1 hr1 ⊢
    refine e_aload_n dX2_keepTriangle_54 rfl ?_
    refine e_dup dX2_keepTriangle_55 rfl ?_
    refine e_getf fX2_24 b1 rfl dX2_keepTriangle_56 ?_
    refine e_iconst dX2_keepTriangle_59 ?_
    refine e_iadd dX2_keepTriangle_60 ?_
    refine e_putf pfX2_24 b1 rfl rfl rfl dX2_keepTriangle_61 ?_
    refine (show Ev _ 0 0 z (g_up h1 p (.inr (1, [.ref (p + 1), .ref (p + 5), .int (iN ((T.length : Int) + 1)), .long (lI a)]))) 64 _ _ from ?_)
    have d1 : (g_up h1 p (.inr (1, [.ref (p + 1), .ref (p + 5), .int (iN ((T.length : Int) + 1)), .long (lI a)]))) p = some (.inr (1, [.ref (p + 1), .ref (p + 5), .int (iN ((T.length : Int) + 1)), .long (lI a)])) := g_up_s _ _ _
    have d2 : (g_up h1 p (.inr (1, [.ref (p + 1), .ref (p + 5), .int (iN ((T.length : Int) + 1)), .long (lI a)]))) (p + 5) = some (aI G 16 (uI g T.length (tri3 L i j k))) := (g_up_n _ _ (by omega)).trans b2
    have f2 : g_fr p 6 h (g_up h1 p (.inr (1, [.ref (p + 1), .ref (p + 5), .int (iN ((T.length : Int) + 1)), .long (lI a)]))) := f1.up (by omega) (by omega)
    have hr2 : rowAt G 16 L (p + 1) (g_up h1 p (.inr (1, [.ref (p + 1), .ref (p + 5), .int (iN ((T.length : Int) + 1)), .long (lI a)]))) := hr1.kept (fun b h0 h2 => g_up_n _ _ (by omega))
    generalize g_up h1 p (.inr (1, [.ref (p + 1), .ref (p + 5), .int (iN ((T.length : Int) + 1)), .long (lI a)])) = h2 at d1 d2 f2 hr2 ⊢
    refine e_aload_n dX2_keepTriangle_64 rfl ?_
    refine e_dup dX2_keepTriangle_65 rfl ?_
    refine e_getf fX2_28 d1 rfl dX2_keepTriangle_66 ?_
    refine e_aload_n dX2_keepTriangle_69 rfl ?_
    refine e_getf fX2_14 d1 rfl dX2_keepTriangle_70 ?_
    refine e_iload_n dX2_keepTriangle_73 rfl ?_
    refine e_iload_n dX2_keepTriangle_74 rfl ?_
    refine e_iload_n dX2_keepTriangle_75 rfl ?_
    refine e_pureS qcX2_72 (S_twistOf hr2 hi hj hk) rfl rfl rfl rfl dX2_keepTriangle_76 ?_
    refine e_mabsL ⟨by omega, by omega⟩ qcX2_76 rfl dX2_keepTriangle_79 ?_
    refine e_ladd dX2_keepTriangle_82 ?_
    refine e_putf pfX2_28 d1 rfl rfl rfl dX2_keepTriangle_83 ?_
    refine e_vret rfl dX2_keepTriangle_86 (by decide) (by decide) ?_
    refine ⟨none, rfl, rfl, rfl, ⟨uI g T.length (tri3 L i j k), ⟨?_, (g_up_n _ _ (by omega)).trans d2⟩, fun b hb => ?_, hr2.kept (fun b h0 h2 => g_up_n _ _ (by omega))⟩, f2.up (by omega) (by omega)⟩
    · rw [List.length_append]
      exact g_up_s _ _ _
    · rw [List.length_append] at hb
      have hb : b < T.length + 1 := hb
      unfold uI
      by_cases c : b = T.length
      · rw [if_pos c, getD_app.2 c]
      · rw [if_neg c, getD_app.1 (by omega)]
        exact a3 b (by omega)
/-- whether the i-th corner is an ear -/
abbrev inE (L : PL) (i : Nat) (w : Int) (j : Nat) : Prop := 0 ≤ w * sd3 L (prv L.length i) i L j ∧ 0 ≤ w * sd3 L i (nxt L.length i) L j ∧ 0 ≤ w * sd3 L (nxt L.length i) (prv L.length i) L j
abbrev othE (L : PL) (i j : Nat) : Prop := j ≠ prv L.length i ∧ j ≠ i ∧ j ≠ nxt L.length i
def earP (L : PL) (w : Int) (i : Nat) : Prop := sd3 L (prv L.length i) i L (nxt L.length i) = w ∧ ∀ j, j < L.length → othE L i j → ¬ inE L i w j
def blkP (L : PL) (i : Nat) (w : Int) (j : Nat) : Prop := othE L i j ∧ inE L i w j
set_option maxRecDepth 20000 in
theorem ie_loop {z : Option Nat} (hp : parAt G L T a p h) {w : Int} (hw : -1 ≤ w ∧ w ≤ 1) {i : Nat} (hi : i < L.length) (hs : sd3 L (prv L.length i) i L (nxt L.length i) = w) : ∀ (n j : Nat), j + n = L.length → (∀ b, b < j → ¬ blkP L i w b) → Ev (g_B G mX2_isEar 0 0 (fun o z1 h1 => o = .inl (some (.int (iN (bC (earP L w i))))) ∧ z1 = z ∧ h1 = h)) 0 0 z h 43 [(5, .int (iN j)), (3, .int (iN (prv L.length i))), (4, .int (iN (nxt L.length i))), (0, .ref p), (1, .int (iN i)), (2, .int (iN w))] [] := by
  have hr := hp.row
  have h9 := hr.1
  have h8 := hr.2.1
  have hni := nxt_lt hi
  have hpi := prv_lt hi
  intro n
  induction n with
  | zero =>
    intro j hjn hno
    have e9 : j = L.length := by omega
    subst e9
    refine e_iload dX2_isEar_43 rfl ?_
    refine e_aload_n dX2_isEar_45 rfl ?_
    refine e_getf fX2_14 hp.obj rfl dX2_isEar_46 ?_
    refine e_pureV qcX2_48 hr.obj rfl rfl (S_size hr) rfl rfl rfl rfl dX2_isEar_49 ?_
    refine e_icmp_ge (tgt := 156) ⟨by omega, by omega⟩ ⟨by omega, by omega⟩ dX2_isEar_52 rfl (fun c_52 => ?_) (fun c_52 => absurd (Int.le_refl _) c_52)
    refine e_iconst dX2_isEar_156 ?_
    refine e_zret rfl (by first | exact Or.inl rfl | exact Or.inr rfl | exact bP_01 _) dX2_isEar_157 (by decide) (by decide) ?_
    exact ⟨by rw [bC_t (p := earP L w i) ⟨hs, fun j hj ho hn => hno j hj ⟨ho, hn⟩⟩], rfl, rfl⟩
  | succ n ih =>
    intro j hjn hno
    have hj : j < L.length := by omega
    have s1 : -1 ≤ w * sd3 L (prv L.length i) i L j ∧ w * sd3 L (prv L.length i) i L j ≤ 1 := mul_bd (A := 1) (B := 1) hw (sg_bd (tw3 L (prv L.length i) i L j))
    have s2 : -1 ≤ w * sd3 L i (nxt L.length i) L j ∧ w * sd3 L i (nxt L.length i) L j ≤ 1 := mul_bd (A := 1) (B := 1) hw (sg_bd (tw3 L i (nxt L.length i) L j))
    have s3 : -1 ≤ w * sd3 L (nxt L.length i) (prv L.length i) L j ∧ w * sd3 L (nxt L.length i) (prv L.length i) L j ≤ 1 := mul_bd (A := 1) (B := 1) hw (sg_bd (tw3 L (nxt L.length i) (prv L.length i) L j))
    have gn : ¬ blkP L i w j → Ev (g_B G mX2_isEar 0 0 (fun o z1 h1 => o = .inl (some (.int (iN (bC (earP L w i))))) ∧ z1 = z ∧ h1 = h)) 0 0 z h 43 [(5, .int (iN (j + 1 : Nat))), (3, .int (iN (prv L.length i))), (4, .int (iN (nxt L.length i))), (0, .ref p), (1, .int (iN i)), (2, .int (iN w))] [] := fun w9 => ih (j + 1) (by omega) (fun b hb => by
      by_cases e : b = j
      · subst e
        exact w9
      · exact hno b (by omega))
    refine e_iload dX2_isEar_43 rfl ?_
    refine e_aload_n dX2_isEar_45 rfl ?_
    refine e_getf fX2_14 hp.obj rfl dX2_isEar_46 ?_
    refine e_pureV qcX2_48 hr.obj rfl rfl (S_size hr) rfl rfl rfl rfl dX2_isEar_49 ?_
    refine e_icmp_ge (tgt := 156) ⟨by omega, by omega⟩ ⟨by omega, by omega⟩ dX2_isEar_52 rfl (fun c_52 => ?_) (fun c_52 => ?_)
    · exact absurd c_52 (by omega)
    · refine e_iload dX2_isEar_55 rfl ?_
      refine e_iload_n dX2_isEar_57 rfl ?_
      refine e_icmp_eq (tgt := 78) ⟨by omega, by omega⟩ ⟨by omega, by omega⟩ dX2_isEar_58 rfl (fun c_58 => ?_) (fun c_58 => ?_)
      · have k0 : ¬ blkP L i w j := fun w9 => w9.1.1 (by omega)
        refine e_iconst dX2_isEar_78 ?_
        refine e_istore dX2_isEar_79 rfl ?_
        refine e_iload dX2_isEar_81 rfl ?_
        refine e_if_eq (tgt := 150) ⟨by omega, by omega⟩ dX2_isEar_83 rfl (fun _ => ?_) (fun c => absurd rfl c)
        refine e_iinc dX2_isEar_150 rfl ?_
        refine e_goto (tgt := 43) dX2_isEar_153 rfl ?_
        exact e_loc [(5, .int (iN (j + 1 : Nat))), (3, .int (iN (prv L.length i))), (4, .int (iN (nxt L.length i))), (0, .ref p), (1, .int (iN i)), (2, .int (iN w))] ⟨rfl, rfl, rfl, rfl, rfl, rfl, trivial⟩ (gn (fun w9 => by first | exact k0 w9 | exact absurd w9.2.1 k1 | exact absurd w9.2.2.1 k2 | exact absurd w9.2.2.2 k3))
      · have o1 : j ≠ prv L.length i := by omega
        refine e_iload dX2_isEar_61 rfl ?_
        refine e_iload_n dX2_isEar_63 rfl ?_
        refine e_icmp_eq (tgt := 78) ⟨by omega, by omega⟩ ⟨by omega, by omega⟩ dX2_isEar_64 rfl (fun c_64 => ?_) (fun c_64 => ?_)
        · have k0 : ¬ blkP L i w j := fun w9 => w9.1.2.1 (by omega)
          refine e_iconst dX2_isEar_78 ?_
          refine e_istore dX2_isEar_79 rfl ?_
          refine e_iload dX2_isEar_81 rfl ?_
          refine e_if_eq (tgt := 150) ⟨by omega, by omega⟩ dX2_isEar_83 rfl (fun _ => ?_) (fun c => absurd rfl c)
          refine e_iinc dX2_isEar_150 rfl ?_
          refine e_goto (tgt := 43) dX2_isEar_153 rfl ?_
          exact e_loc [(5, .int (iN (j + 1 : Nat))), (3, .int (iN (prv L.length i))), (4, .int (iN (nxt L.length i))), (0, .ref p), (1, .int (iN i)), (2, .int (iN w))] ⟨rfl, rfl, rfl, rfl, rfl, rfl, trivial⟩ (gn (fun w9 => by first | exact k0 w9 | exact absurd w9.2.1 k1 | exact absurd w9.2.2.1 k2 | exact absurd w9.2.2.2 k3))
        · have o2 : j ≠ i := by omega
          refine e_iload dX2_isEar_67 rfl ?_
          refine e_iload dX2_isEar_69 rfl ?_
          refine e_icmp_eq (tgt := 78) ⟨by omega, by omega⟩ ⟨by omega, by omega⟩ dX2_isEar_71 rfl (fun c_71 => ?_) (fun c_71 => ?_)
          · have k0 : ¬ blkP L i w j := fun w9 => w9.1.2.2 (by omega)
            refine e_iconst dX2_isEar_78 ?_
            refine e_istore dX2_isEar_79 rfl ?_
            refine e_iload dX2_isEar_81 rfl ?_
            refine e_if_eq (tgt := 150) ⟨by omega, by omega⟩ dX2_isEar_83 rfl (fun _ => ?_) (fun c => absurd rfl c)
            refine e_iinc dX2_isEar_150 rfl ?_
            refine e_goto (tgt := 43) dX2_isEar_153 rfl ?_
            exact e_loc [(5, .int (iN (j + 1 : Nat))), (3, .int (iN (prv L.length i))), (4, .int (iN (nxt L.length i))), (0, .ref p), (1, .int (iN i)), (2, .int (iN w))] ⟨rfl, rfl, rfl, rfl, rfl, rfl, trivial⟩ (gn (fun w9 => by first | exact k0 w9 | exact absurd w9.2.1 k1 | exact absurd w9.2.2.1 k2 | exact absurd w9.2.2.2 k3))
          · have o3 : j ≠ nxt L.length i := by omega
            refine e_iconst dX2_isEar_74 ?_
            refine e_goto (tgt := 79) dX2_isEar_75 rfl ?_
            refine e_istore dX2_isEar_79 rfl ?_
            refine e_iload dX2_isEar_81 rfl ?_
            refine e_if_eq (tgt := 150) ⟨by omega, by omega⟩ dX2_isEar_83 rfl (fun c => absurd c (show ¬ (1 : Int) = 0 by decide)) (fun _ => ?_)
            refine e_iload_n dX2_isEar_86 rfl ?_
            refine e_aload_n dX2_isEar_87 rfl ?_
            refine e_getf fX2_14 hp.obj rfl dX2_isEar_88 ?_
            refine e_iload_n dX2_isEar_91 rfl ?_
            refine e_iload_n dX2_isEar_92 rfl ?_
            refine e_aload_n dX2_isEar_93 rfl ?_
            refine e_getf fX2_14 hp.obj rfl dX2_isEar_94 ?_
            refine e_iload dX2_isEar_97 rfl ?_
            refine e_pureS qcX2_86 (S_side hr hr hpi hi hj) rfl rfl rfl rfl dX2_isEar_99 ?_
            refine e_imul dX2_isEar_102 ?_
            refine e_if_lt (x := w * sd3 L (prv L.length i) i L j) (tgt := 150) ⟨Int.le_trans (by decide) s1.1, Int.lt_of_le_of_lt s1.2 (by decide)⟩ dX2_isEar_103 rfl (fun c_103 => ?_) (fun c_103 => ?_)
            · have k1 : ¬ 0 ≤ w * sd3 L (prv L.length i) i L j := Int.not_le.mpr c_103
              refine e_iinc dX2_isEar_150 rfl ?_
              refine e_goto (tgt := 43) dX2_isEar_153 rfl ?_
              exact e_loc [(5, .int (iN (j + 1 : Nat))), (3, .int (iN (prv L.length i))), (4, .int (iN (nxt L.length i))), (0, .ref p), (1, .int (iN i)), (2, .int (iN w))] ⟨rfl, rfl, rfl, rfl, rfl, rfl, trivial⟩ (gn (fun w9 => by first | exact k0 w9 | exact absurd w9.2.1 k1 | exact absurd w9.2.2.1 k2 | exact absurd w9.2.2.2 k3))
            · have n1 : 0 ≤ w * sd3 L (prv L.length i) i L j := Int.not_lt.mp c_103
              refine e_iload_n dX2_isEar_106 rfl ?_
              refine e_aload_n dX2_isEar_107 rfl ?_
              refine e_getf fX2_14 hp.obj rfl dX2_isEar_108 ?_
              refine e_iload_n dX2_isEar_111 rfl ?_
              refine e_iload dX2_isEar_112 rfl ?_
              refine e_aload_n dX2_isEar_114 rfl ?_
              refine e_getf fX2_14 hp.obj rfl dX2_isEar_115 ?_
              refine e_iload dX2_isEar_118 rfl ?_
              refine e_pureS qcX2_86 (S_side hr hr hi hni hj) rfl rfl rfl rfl dX2_isEar_120 ?_
              refine e_imul dX2_isEar_123 ?_
              refine e_if_lt (x := w * sd3 L i (nxt L.length i) L j) (tgt := 150) ⟨Int.le_trans (by decide) s2.1, Int.lt_of_le_of_lt s2.2 (by decide)⟩ dX2_isEar_124 rfl (fun c_124 => ?_) (fun c_124 => ?_)
              · have k2 : ¬ 0 ≤ w * sd3 L i (nxt L.length i) L j := Int.not_le.mpr c_124
                refine e_iinc dX2_isEar_150 rfl ?_
                refine e_goto (tgt := 43) dX2_isEar_153 rfl ?_
                exact e_loc [(5, .int (iN (j + 1 : Nat))), (3, .int (iN (prv L.length i))), (4, .int (iN (nxt L.length i))), (0, .ref p), (1, .int (iN i)), (2, .int (iN w))] ⟨rfl, rfl, rfl, rfl, rfl, rfl, trivial⟩ (gn (fun w9 => by first | exact k0 w9 | exact absurd w9.2.1 k1 | exact absurd w9.2.2.1 k2 | exact absurd w9.2.2.2 k3))
              · have n2 : 0 ≤ w * sd3 L i (nxt L.length i) L j := Int.not_lt.mp c_124
                refine e_iload_n dX2_isEar_127 rfl ?_
                refine e_aload_n dX2_isEar_128 rfl ?_
                refine e_getf fX2_14 hp.obj rfl dX2_isEar_129 ?_
                refine e_iload dX2_isEar_132 rfl ?_
                refine e_iload_n dX2_isEar_134 rfl ?_
                refine e_aload_n dX2_isEar_135 rfl ?_
                refine e_getf fX2_14 hp.obj rfl dX2_isEar_136 ?_
                refine e_iload dX2_isEar_139 rfl ?_
                refine e_pureS qcX2_86 (S_side hr hr hni hpi hj) rfl rfl rfl rfl dX2_isEar_141 ?_
                refine e_imul dX2_isEar_144 ?_
                refine e_if_lt (x := w * sd3 L (nxt L.length i) (prv L.length i) L j) (tgt := 150) ⟨Int.le_trans (by decide) s3.1, Int.lt_of_le_of_lt s3.2 (by decide)⟩ dX2_isEar_145 rfl (fun c_145 => ?_) (fun c_145 => ?_)
                · have k3 : ¬ 0 ≤ w * sd3 L (nxt L.length i) (prv L.length i) L j := Int.not_le.mpr c_145
                  refine e_iinc dX2_isEar_150 rfl ?_
                  refine e_goto (tgt := 43) dX2_isEar_153 rfl ?_
                  exact e_loc [(5, .int (iN (j + 1 : Nat))), (3, .int (iN (prv L.length i))), (4, .int (iN (nxt L.length i))), (0, .ref p), (1, .int (iN i)), (2, .int (iN w))] ⟨rfl, rfl, rfl, rfl, rfl, rfl, trivial⟩ (gn (fun w9 => by first | exact k0 w9 | exact absurd w9.2.1 k1 | exact absurd w9.2.2.1 k2 | exact absurd w9.2.2.2 k3))
                · have n3 : 0 ≤ w * sd3 L (nxt L.length i) (prv L.length i) L j := Int.not_lt.mp c_145
                  refine e_iconst dX2_isEar_148 ?_
                  refine e_zret rfl (by first | exact Or.inl rfl | exact Or.inr rfl | exact bP_01 _) dX2_isEar_149 (by decide) (by decide) ?_
                  exact ⟨by rw [bC_f (p := earP L w i) (fun w9 => w9.2 j hj ⟨o1, o2, o3⟩ ⟨n1, n2, n3⟩)], rfl, rfl⟩
set_option maxRecDepth 20000 in
theorem S_isEar (hp : parAt G L T a p h) {w : Int} (hw : -1 ≤ w ∧ w ≤ 1) {i : Nat} (hi : i < L.length) : Pure G mX2_isEar [.ref p, .int (iN i), .int (iN w)] h (.int (iN (bC (earP L w i)))) := by
  have hr := hp.row
  have s1 : -1 ≤ sd3 L (prv L.length i) i L (nxt L.length i) ∧ sd3 L (prv L.length i) i L (nxt L.length i) ≤ 1 := sg_bd (tw3 L (prv L.length i) i L (nxt L.length i))
  intro z
  refine run_of rfl plX2 rfl ?_
  refine e_aload_n dX2_isEar_0 rfl ?_
  refine e_getf fX2_14 hp.obj rfl dX2_isEar_1 ?_
  refine e_iload_n dX2_isEar_4 rfl ?_
  refine e_pureV qcX2_56 hr.obj rfl rfl (S_previous hr hi) rfl rfl rfl rfl dX2_isEar_5 ?_
  refine e_istore_n dX2_isEar_8 rfl ?_
  refine e_aload_n dX2_isEar_9 rfl ?_
  refine e_getf fX2_14 hp.obj rfl dX2_isEar_10 ?_
  refine e_iload_n dX2_isEar_13 rfl ?_
  refine e_pureV qcX2_59 hr.obj rfl rfl (S_next hr hi) rfl rfl rfl rfl dX2_isEar_14 ?_
  refine e_istore dX2_isEar_17 rfl ?_
  refine e_aload_n dX2_isEar_19 rfl ?_
  refine e_getf fX2_14 hp.obj rfl dX2_isEar_20 ?_
  refine e_iload_n dX2_isEar_23 rfl ?_
  refine e_iload_n dX2_isEar_24 rfl ?_
  refine e_aload_n dX2_isEar_25 rfl ?_
  refine e_getf fX2_14 hp.obj rfl dX2_isEar_26 ?_
  refine e_iload dX2_isEar_29 rfl ?_
  refine e_pureS qcX2_86 (S_side hr hr (prv_lt hi) hi (nxt_lt hi)) rfl rfl rfl rfl dX2_isEar_31 ?_
  refine e_iload_n dX2_isEar_34 rfl ?_
  refine e_icmp_eq (x := sd3 L (prv L.length i) i L (nxt L.length i)) (y := w) (tgt := 40) ⟨by omega, by omega⟩ ⟨by omega, by omega⟩ dX2_isEar_35 rfl (fun c_35 => ?_) (fun c_35 => ?_)
  · refine e_iconst dX2_isEar_40 ?_
    refine e_istore dX2_isEar_41 rfl ?_
    exact e_loc [(5, .int (iN (0 : Nat))), (3, .int (iN (prv L.length i))), (4, .int (iN (nxt L.length i))), (0, .ref p), (1, .int (iN i)), (2, .int (iN w))] ⟨rfl, rfl, rfl, rfl, rfl, rfl, trivial⟩ (ie_loop hp hw hi c_35 L.length 0 (by omega) (fun b hb => absurd hb (by omega)))
  · refine e_iconst dX2_isEar_38 ?_
    refine e_zret rfl (by first | exact Or.inl rfl | exact Or.inr rfl | exact bP_01 _) dX2_isEar_39 (by decide) (by decide) ?_
    exact ⟨by rw [bC_f (p := earP L w i) (fun w9 => c_35 w9.1)], rfl, rfl⟩
end PPART
