/-! The law: the parting, what is seen -/
noncomputable def triV (L : PL) (t : Nat) : Int := (parD L).2.1.getD t 0
noncomputable def triT (L : PL) (t : Nat) : Int := ((tw3 L (triV L t / 10000).toNat (triV L t / 100 % 100).toNat L (triV L t % 100).toNat).natAbs : Int)
def parG (L : PL) : Prop := (parD L).2.1.length = L.length - 2 ∧ (∀ t, t < L.length - 2 → ∃ a c d : Nat, (a < L.length ∧ c < L.length ∧ d < L.length) ∧ triV L t = ((10000 * a + 100 * c + d : Nat) : Int) ∧ opn L a d ∧ opn L a c ∧ opn L c d) ∧ sumN (triT L) (L.length - 2) = ((da L).natAbs : Int)
def seeG (L : PL) : Prop := ∀ k, k < L.length → (∀ i, i < L.length → (opn L k i ↔ opn L i k) ∧ ((pX L k + pX L i).tmod 2 = 0 → (pY L k + pY L i).tmod 2 = 0 → opn L k i → 0 ≤ wI L 1 ((pX L k + pX L i).tdiv 2) ((pY L k + pY L i).tdiv 2))) ∧ opn L k (nxt L.length k)
theorem dig_1 {a c d : Nat} (hc : c < 100) (hd : d < 100) : ((10000 * a + 100 * c + d : Nat) : Int).tdiv 10000 = (a : Int) := by
  show (((10000 * a + 100 * c + d) / 10000 : Nat) : Int) = a
  omega
theorem dig_2 {a c d : Nat} (hc : c < 100) (hd : d < 100) : (((10000 * a + 100 * c + d : Nat) : Int).tdiv 100).tmod 100 = (c : Int) := by
  show (((10000 * a + 100 * c + d) / 100 % 100 : Nat) : Int) = c
  omega
theorem dig_3 {a c d : Nat} (hd : d < 100) : ((10000 * a + 100 * c + d : Nat) : Int).tmod 100 = (d : Int) := by
  show (((10000 * a + 100 * c + d) % 100 : Nat) : Int) = d
  omega
theorem triT_at {L : PL} {t a c d : Nat} (hc : c < 100) (hd : d < 100) (e : triV L t = ((10000 * a + 100 * c + d : Nat) : Int)) : triT L t = ((tw3 L a c L d).natAbs : Int) := by
  unfold triT
  rw [e, show (((10000 * a + 100 * c + d : Nat) : Int) / 10000).toNat = a by omega, show (((10000 * a + 100 * c + d : Nat) : Int) / 100 % 100).toNat = c by omega, show (((10000 * a + 100 * c + d : Nat) : Int) % 100).toNat = d by omega]
section LAW13
variable {G : g_X} {x pt sd cr : Int} {HP XS YS GX GY FX FY : Nat → Int} {P E : PL} {S : Nat → PL} {b : Int} {P2 E2 : PL} {S2 : Nat → PL} {F : PL} {l : Nat} {h : g_hp} {L : PL} {g9 : Nat}
set_option maxRecDepth 20000 in
theorem ip_loop (hL : polP L) (hx : gxy L GX GY) (hg9 : g9 < 3) (hS : S g9 = L) (cl : closes L) (hP : parG L) (hd : -100000 ≤ ((da L).natAbs : Int) ∧ ((da L).natAbs : Int) ≤ 100000) : ∀ (n t k : Nat) (h : g_hp), lwW G x pt (L.length : Int) cr HP XS YS GX GY FX FY P E S b P2 E2 S2 F l h → t + n = L.length - 2 → k ≤ 1 + 4 * t → Ev (g_B G mL_isParted 60 (6 * 60) (zQ (fun v h1 => v = .int (iN 1) ∧ lwW G x pt (L.length : Int) cr HP XS YS GX GY FX FY P E S b P2 E2 S2 F l h1))) k (6 * k) none h 15 [(5, .int (iN ((t : Nat) : Int))), (4, .int (iN (sumN (triT L) (t)))), (3, .int (iN ((L.length - 2 : Nat) : Int))), (2, .int (iN ((da L).natAbs : Int))), (1, .int (iN (g9 : Int))), (0, .ref l)] []
  | 0, t, k, h, W, e, hk => by
    have hl := hL.1
    have e9 : t = L.length - 2 := by omega
    subst e9
    rw [hP.2.2]
    refine e_iload dL_isParted_15 rfl ?_
    refine e_iload_n dL_isParted_17 rfl ?_
    refine e_icmp_ge (tgt := 182) ⟨by omega, by omega⟩ ⟨by omega, by omega⟩ dL_isParted_18 rfl (fun c_9 => ?_) (fun c_9 => absurd (by omega) c_9)
    refine e_iload_n dL_isParted_182 rfl ?_
    refine e_aload_n dL_isParted_183 rfl ?_
    refine e_getf fL_174 W.obj rfl dL_isParted_184 ?_
    refine e_iconst dL_isParted_187 ?_
    refine e_isub dL_isParted_188 ?_
    refine e_icmp_ne (tgt := 202) ⟨by omega, by omega⟩ ⟨by omega, by omega⟩ dL_isParted_189 rfl (fun c => absurd (by omega) c) (fun _ => ?_)
    refine e_iload dL_isParted_192 rfl ?_
    refine e_iload_n dL_isParted_194 rfl ?_
    refine e_same_ne (tgt := 202) dL_isParted_195 rfl ?_
    refine e_iconst dL_isParted_198 ?_
    refine e_goto (tgt := 203) dL_isParted_199 rfl ?_
    refine e_zret rfl (Or.inr rfl) dL_isParted_203 (by omega) (by omega) ?_
    exact ⟨rfl, _, rfl, rfl, W⟩
  | n + 1, t, k, h, W, e, hk => by
    have ih := ip_loop hL hx hg9 hS cl hP hd n (t + 1)
    have hl := hL.1
    have hS9 : S ((g9 : Int)).toNat = L := hS
    have cl9 : closes (S ((g9 : Int)).toNat) := by
      rw [hS9]
      exact cl
    have cr9 : ∀ i : Nat, i < L.length → crOK (S ((g9 : Int)).toNat) (i : Int) := fun i hi => by
      rw [hS9]
      exact ⟨by omega, by omega⟩
    obtain ⟨a, c, d, ⟨la, lc, ld⟩, ev, o1, o2, o3⟩ := hP.2.1 t (by omega)
    have fa := hx a la
    have fc := hx c lc
    have fd := hx d ld
    have ba := hL.2.b la
    have bc := hL.2.b lc
    have bd := hL.2.b ld
    have tr := tw_r ba.1 ba.2 bc.1 bc.2 bd.1 bd.2
    have et := triT_at (by omega) (by omega) ev
    have es : sumN (triT L) (t + 1) = sumN (triT L) t + ((tw3 L a c L d).natAbs : Int) := by
      show _ + triT L t = _
      rw [et]
    have e1 := dig_1 (a := a) (c := c) (d := d) (by omega) (by omega)
    have e2 := dig_2 (a := a) (c := c) (d := d) (by omega) (by omega)
    have e3 := dig_3 (a := a) (c := c) (d := d) (by omega)
    have r9 : r32 ((10000 * a + 100 * c + d : Nat) : Int) := ⟨by omega, by omega⟩
    have q9 : ((10000 * a + 100 * c + d : Nat) : Int).tdiv 100 = (((10000 * a + 100 * c + d) / 100 : Nat) : Int) := rfl
    have p9 : (10000 * a + 100 * c + d) / 100 ≤ 20000 := by omega
    refine e_iload dL_isParted_15 rfl ?_
    refine e_iload_n dL_isParted_17 rfl ?_
    refine e_icmp_ge (tgt := 182) ⟨by omega, by omega⟩ ⟨by omega, by omega⟩ dL_isParted_18 rfl (fun c_9 => absurd c_9 (by omega)) (fun c_9 => ?_)
    refine e_aload_n dL_isParted_21 rfl ?_
    refine e_getf fL_10 W.obj rfl dL_isParted_22 ?_
    refine e_iload_n dL_isParted_25 rfl ?_
    refine e_iload dL_isParted_26 rfl ?_
    refine e_hs W qcL_226 rfl (fun _ _ _ _ _ _ _ _ _ X => D_triangleAt X (t := (t : Int)) ⟨by omega, by omega⟩ cl9 (by rw [hS9, hP.1]; exact ⟨by omega, by omega⟩) ⟨by omega, by omega⟩) rfl rfl rfl rfl (by omega) dL_isParted_28 (fun h W => ?_)
    rw [hS9]
    refine (show Ev _ _ _ _ h _ _ (.int (iN (triV L t)) :: []) from ?_)
    rw [ev]
    refine e_istore dL_isParted_31 rfl ?_
    refine e_iload dL_isParted_33 rfl ?_
    refine e_sipush dL_isParted_35 (by decide) ?_
    refine e_idiv r9 ⟨by omega, by omega⟩ (by decide) dL_isParted_38 ?_
    rw [e1]
    refine e_istore dL_isParted_39 rfl ?_
    refine e_iload dL_isParted_41 rfl ?_
    refine e_bipush dL_isParted_43 (by decide) ?_
    refine e_idiv r9 ⟨by omega, by omega⟩ (by decide) dL_isParted_45 ?_
    refine e_bipush dL_isParted_46 (by decide) ?_
    refine e_irem (by rw [q9]; exact ⟨by omega, by omega⟩) ⟨by omega, by omega⟩ (by decide) dL_isParted_48 ?_
    rw [e2]
    refine e_istore dL_isParted_49 rfl ?_
    refine e_iload dL_isParted_51 rfl ?_
    refine e_bipush dL_isParted_53 (by decide) ?_
    refine e_irem r9 ⟨by omega, by omega⟩ (by decide) dL_isParted_55 ?_
    rw [e3]
    refine e_istore dL_isParted_56 rfl ?_
    refine e_iload dL_isParted_58 rfl ?_
    refine e_aload_n dL_isParted_60 rfl ?_
    refine e_getf fL_26 W.obj rfl dL_isParted_61 ?_
    refine e_iload dL_isParted_64 rfl ?_
    refine e_iaE W.gx (by omega) rfl fc.1 dL_isParted_66 ?_
    refine e_aload_n dL_isParted_67 rfl ?_
    refine e_getf fL_26 W.obj rfl dL_isParted_68 ?_
    refine e_iload dL_isParted_71 rfl ?_
    refine e_iaE W.gx (by omega) rfl fa.1 dL_isParted_73 ?_
    refine e_isub dL_isParted_74 ?_
    refine e_aload_n dL_isParted_75 rfl ?_
    refine e_getf fL_29 W.obj rfl dL_isParted_76 ?_
    refine e_iload dL_isParted_79 rfl ?_
    refine e_iaE W.gy (by omega) rfl fd.2 dL_isParted_81 ?_
    refine e_aload_n dL_isParted_82 rfl ?_
    refine e_getf fL_29 W.obj rfl dL_isParted_83 ?_
    refine e_iload dL_isParted_86 rfl ?_
    refine e_iaE W.gy (by omega) rfl fa.2 dL_isParted_88 ?_
    refine e_isub dL_isParted_89 ?_
    refine e_imul dL_isParted_90 ?_
    refine e_aload_n dL_isParted_91 rfl ?_
    refine e_getf fL_29 W.obj rfl dL_isParted_92 ?_
    refine e_iload dL_isParted_95 rfl ?_
    refine e_iaE W.gy (by omega) rfl fc.2 dL_isParted_97 ?_
    refine e_aload_n dL_isParted_98 rfl ?_
    refine e_getf fL_29 W.obj rfl dL_isParted_99 ?_
    refine e_iload dL_isParted_102 rfl ?_
    refine e_iaE W.gy (by omega) rfl fa.2 dL_isParted_104 ?_
    refine e_isub dL_isParted_105 ?_
    refine e_aload_n dL_isParted_106 rfl ?_
    refine e_getf fL_26 W.obj rfl dL_isParted_107 ?_
    refine e_iload dL_isParted_110 rfl ?_
    refine e_iaE W.gx (by omega) rfl fd.1 dL_isParted_112 ?_
    refine e_aload_n dL_isParted_113 rfl ?_
    refine e_getf fL_26 W.obj rfl dL_isParted_114 ?_
    refine e_iload dL_isParted_117 rfl ?_
    refine e_iaE W.gx (by omega) rfl fa.1 dL_isParted_119 ?_
    refine e_isub dL_isParted_120 ?_
    refine e_imul dL_isParted_121 ?_
    refine e_isub dL_isParted_122 ?_
    refine (show Ev _ _ _ _ h _ _ (.int (iN (tw3 L a c L d)) :: _) from ?_)
    refine e_mabs ⟨Int.le_trans (by decide) tr.1, Int.lt_of_le_of_lt tr.2 (by decide)⟩ qcL_43 (g_rM_of rfl (by show _ ≤ 60; omega) (by show _ ≤ 6 * 60; omega)) dL_isParted_123 ?_
    refine e_iadd dL_isParted_126 ?_
    refine e_istore dL_isParted_127 rfl ?_
    refine e_aload_n dL_isParted_129 rfl ?_
    refine e_getf fL_10 W.obj rfl dL_isParted_130 ?_
    refine e_iload_n dL_isParted_133 rfl ?_
    refine e_iload dL_isParted_134 rfl ?_
    refine e_iload dL_isParted_136 rfl ?_
    refine e_hs W qcL_229 rfl (fun _ _ _ _ _ _ _ _ _ X => D_sees X ⟨by omega, by omega⟩ (cr9 a (by omega)) (cr9 d (by omega)) cl9 ⟨by omega, by omega⟩ ⟨by omega, by omega⟩) rfl rfl rfl rfl (by omega) dL_isParted_138 (fun h W => ?_)
    rw [hS9, bC_t (show opn L ((a : Int)).toNat ((d : Int)).toNat from o1)]
    refine e_if_eq (tgt := 174) ⟨by omega, by omega⟩ dL_isParted_141 rfl (fun c => absurd c (by decide)) (fun _ => ?_)
    refine e_aload_n dL_isParted_144 rfl ?_
    refine e_getf fL_10 W.obj rfl dL_isParted_145 ?_
    refine e_iload_n dL_isParted_148 rfl ?_
    refine e_iload dL_isParted_149 rfl ?_
    refine e_iload dL_isParted_151 rfl ?_
    refine e_hs W qcL_229 rfl (fun _ _ _ _ _ _ _ _ _ X => D_sees X ⟨by omega, by omega⟩ (cr9 a (by omega)) (cr9 c (by omega)) cl9 ⟨by omega, by omega⟩ ⟨by omega, by omega⟩) rfl rfl rfl rfl (by omega) dL_isParted_153 (fun h W => ?_)
    rw [hS9, bC_t (show opn L ((a : Int)).toNat ((c : Int)).toNat from o2)]
    refine e_if_eq (tgt := 174) ⟨by omega, by omega⟩ dL_isParted_156 rfl (fun c => absurd c (by decide)) (fun _ => ?_)
    refine e_aload_n dL_isParted_159 rfl ?_
    refine e_getf fL_10 W.obj rfl dL_isParted_160 ?_
    refine e_iload_n dL_isParted_163 rfl ?_
    refine e_iload dL_isParted_164 rfl ?_
    refine e_iload dL_isParted_166 rfl ?_
    refine e_hs W qcL_229 rfl (fun _ _ _ _ _ _ _ _ _ X => D_sees X ⟨by omega, by omega⟩ (cr9 c (by omega)) (cr9 d (by omega)) cl9 ⟨by omega, by omega⟩ ⟨by omega, by omega⟩) rfl rfl rfl rfl (by omega) dL_isParted_168 (fun h W => ?_)
    rw [hS9, bC_t (show opn L ((c : Int)).toNat ((d : Int)).toNat from o3)]
    refine e_if_ne (tgt := 176) ⟨by omega, by omega⟩ dL_isParted_171 rfl (fun _ => ?_) (fun c => absurd (show ¬ (1 : Int) = 0 by decide) c)
    refine e_iinc dL_isParted_176 rfl ?_
    refine e_goto (tgt := 15) dL_isParted_179 rfl ?_
    refine e_loc [(5, .int (iN ((t + 1 : Nat) : Int))), (4, .int (iN (sumN (triT L) (t + 1)))), (3, .int (iN ((L.length - 2 : Nat) : Int))), (2, .int (iN ((da L).natAbs : Int))), (1, .int (iN (g9 : Int))), (0, .ref l)] ⟨rfl, ?_, rfl, rfl, rfl, rfl, trivial⟩ (ih _ h W (by omega) (by omega))
    rw [es]
    rfl
set_option maxRecDepth 20000 in
theorem L_isParted (hL : polP L) (hx : gxy L GX GY) (hg9 : g9 < 3) (hS : S g9 = L) (cl : closes L) (hP : parG L) (hd : -100000 ≤ ((da L).natAbs : Int) ∧ ((da L).natAbs : Int) ≤ 100000) (W : lwW G x pt (L.length : Int) cr HP XS YS GX GY FX FY P E S b P2 E2 S2 F l h) : Run G mL_isParted [.ref l, .int (iN (g9 : Int)), .int (iN ((da L).natAbs : Int))] none h 60 (6 * 60) (zQ (fun v h1 => v = .int (iN 1) ∧ lwW G x pt (L.length : Int) cr HP XS YS GX GY FX FY P E S b P2 E2 S2 F l h1)) := by
  have hl := hL.1
  have hS9 : S ((g9 : Int)).toNat = L := hS
  have cl9 : closes (S ((g9 : Int)).toNat) := by
    rw [hS9]
    exact cl
  have cr9 : ∀ i : Nat, i < L.length → crOK (S ((g9 : Int)).toNat) (i : Int) := fun i hi => by
    rw [hS9]
    exact ⟨by omega, by omega⟩
  refine run_L rfl plL rfl ?_
  refine e_aload_n dL_isParted_0 rfl ?_
  refine e_getf fL_10 W.obj rfl dL_isParted_1 ?_
  refine e_iload_n dL_isParted_4 rfl ?_
  refine e_hs W qcL_223 rfl (fun _ _ _ _ _ _ _ _ _ X => D_triangles X ⟨by omega, by omega⟩ cl9) rfl rfl rfl rfl (by omega) dL_isParted_5 (fun h W => ?_)
  rw [hS9, hP.1]
  refine e_istore_n dL_isParted_8 rfl ?_
  refine e_iconst dL_isParted_9 ?_
  refine e_istore dL_isParted_10 rfl ?_
  refine e_iconst dL_isParted_12 ?_
  refine e_istore dL_isParted_13 rfl ?_
  refine e_loc [(5, .int (iN ((0 : Nat) : Int))), (4, .int (iN (sumN (triT L) (0)))), (3, .int (iN ((L.length - 2 : Nat) : Int))), (2, .int (iN ((da L).natAbs : Int))), (1, .int (iN (g9 : Int))), (0, .ref l)] ⟨rfl, rfl, rfl, rfl, rfl, rfl, trivial⟩ ?_
  exact ip_loop hL hx hg9 hS cl hP hd (L.length - 2) 0 _ h W (Nat.zero_add _) (by omega)
set_option maxRecDepth 20000 in
theorem is_mid (hL : polP L) (hx : gxy L GX GY) (hg9 : g9 < 3) (hS : S g9 = L) (cl : closes L) (hG : seeG L) {k9 i9 : Nat} (hk9 : k9 < L.length) (hi9 : i9 < L.length) (ih : ∀ (k : Nat) (h : g_hp), lwW G x pt (L.length : Int) cr HP XS YS GX GY FX FY P E S b P2 E2 S2 F l h → k ≤ 1 + 55 * k9 + 5 * (i9 + 1) → Ev (g_B G mL_isSeen 600 (6 * 600) (zQ (fun v h1 => v = .int (iN 1) ∧ lwW G x pt (L.length : Int) cr HP XS YS GX GY FX FY P E S b P2 E2 S2 F l h1))) k (6 * k) none h 15 [(4, .int (iN ((i9 + 1 : Nat) : Int))), (3, .int (iN ((vwN L k9 (i9 + 1) : Nat) : Int))), (2, .int (iN (k9 : Int))), (1, .int (iN (g9 : Int))), (0, .ref l)] []) (k : Nat) (h : g_hp) (W : lwW G x pt (L.length : Int) cr HP XS YS GX GY FX FY P E S b P2 E2 S2 F l h) (hk : k ≤ 1 + 55 * k9 + 5 * i9 + 3) : Ev (g_B G mL_isSeen 600 (6 * 600) (zQ (fun v h1 => v = .int (iN 1) ∧ lwW G x pt (L.length : Int) cr HP XS YS GX GY FX FY P E S b P2 E2 S2 F l h1))) k (6 * k) none h 79 [(4, .int (iN ((i9 : Nat) : Int))), (3, .int (iN ((vwN L k9 (i9 + 1) : Nat) : Int))), (2, .int (iN (k9 : Int))), (1, .int (iN (g9 : Int))), (0, .ref l)] [] := by
  have hl := hL.1
  have hS9 : S ((g9 : Int)).toNat = L := hS
  have cl9 : closes (S ((g9 : Int)).toNat) := by
    rw [hS9]
    exact cl
  have cr9 : ∀ i : Nat, i < L.length → crOK (S ((g9 : Int)).toNat) (i : Int) := fun i hi => by
    rw [hS9]
    exact ⟨by omega, by omega⟩
  have ek := hx k9 hk9
  have ei := hx i9 hi9
  have gk := hL.2 k9 hk9
  have gi := hL.2 i9 hi9
  have hq := ((hG k9 hk9).1 i9 hi9).2
  have hw := wI_b L 1 ((pX L k9 + pX L i9).tdiv 2) ((pY L k9 + pY L i9).tdiv 2)
  have d1 : -128 ≤ (pX L k9 + pX L i9).tdiv 2 ∧ (pX L k9 + pX L i9).tdiv 2 ≤ 128 := by
    have := Int.natAbs_tdiv_le_natAbs (pX L k9 + pX L i9) 2
    omega
  have d2 : -128 ≤ (pY L k9 + pY L i9).tdiv 2 ∧ (pY L k9 + pY L i9).tdiv 2 ≤ 128 := by
    have := Int.natAbs_tdiv_le_natAbs (pY L k9 + pY L i9) 2
    omega
  have t1 : -400 ≤ (pX L k9 + pX L i9).tmod 2 ∧ (pX L k9 + pX L i9).tmod 2 ≤ 400 := by
    have := Int.tmod_add_mul_tdiv (pX L k9 + pX L i9) 2
    omega
  have t2 : -400 ≤ (pY L k9 + pY L i9).tmod 2 ∧ (pY L k9 + pY L i9).tmod 2 ≤ 400 := by
    have := Int.tmod_add_mul_tdiv (pY L k9 + pY L i9) 2
    omega
  have go : ∀ (Lo : List (Nat × Value)) (k : Nat) (h : g_hp), lwW G x pt (L.length : Int) cr HP XS YS GX GY FX FY P E S b P2 E2 S2 F l h → k ≤ 1 + 55 * k9 + 5 * i9 + 5 → g_sub Lo [(4, .int (iN ((i9 : Nat) : Int))), (3, .int (iN ((vwN L k9 (i9 + 1) : Nat) : Int))), (2, .int (iN (k9 : Int))), (1, .int (iN (g9 : Int))), (0, .ref l)] → Ev (g_B G mL_isSeen 600 (6 * 600) (zQ (fun v h1 => v = .int (iN 1) ∧ lwW G x pt (L.length : Int) cr HP XS YS GX GY FX FY P E S b P2 E2 S2 F l h1))) k (6 * k) none h 188 Lo [] := fun Lo k h W hk hs => by
    refine e_loc [(4, .int (iN ((i9 : Nat) : Int))), (3, .int (iN ((vwN L k9 (i9 + 1) : Nat) : Int))), (2, .int (iN (k9 : Int))), (1, .int (iN (g9 : Int))), (0, .ref l)] hs ?_
    refine e_iinc dL_isSeen_188 rfl ?_
    refine e_goto (tgt := 15) dL_isSeen_191 rfl ?_
    exact e_loc [(4, .int (iN ((i9 + 1 : Nat) : Int))), (3, .int (iN ((vwN L k9 (i9 + 1) : Nat) : Int))), (2, .int (iN (k9 : Int))), (1, .int (iN (g9 : Int))), (0, .ref l)] ⟨rfl, rfl, rfl, rfl, rfl, trivial⟩ (ih k h W (by omega))
  refine e_aload_n dL_isSeen_79 rfl ?_
  refine e_getf fL_26 W.obj rfl dL_isSeen_80 ?_
  refine e_iload_n dL_isSeen_83 rfl ?_
  refine e_iaE W.gx (by omega) rfl ek.1 dL_isSeen_84 ?_
  refine e_aload_n dL_isSeen_85 rfl ?_
  refine e_getf fL_26 W.obj rfl dL_isSeen_86 ?_
  refine e_iload dL_isSeen_89 rfl ?_
  refine e_iaE W.gx (by omega) rfl ei.1 dL_isSeen_91 ?_
  refine e_iadd dL_isSeen_92 ?_
  refine e_iconst dL_isSeen_93 ?_
  refine e_irem ⟨by omega, by omega⟩ ⟨by omega, by omega⟩ (by omega) dL_isSeen_94 ?_
  refine e_if_ne (tgt := 121) ⟨by omega, by omega⟩ dL_isSeen_95 rfl (fun c_95 => ?_) (fun c_95 => ?_)
  · refine e_iconst dL_isSeen_121 ?_
    refine e_istore dL_isSeen_122 rfl ?_
    refine e_iload dL_isSeen_124 rfl ?_
    refine e_if_eq (tgt := 188) r32_0 dL_isSeen_126 rfl (fun _ => ?_) (fun c => absurd rfl c)
    exact go _ _ h W (by omega) ⟨rfl, rfl, rfl, rfl, rfl, trivial⟩
  · refine e_aload_n dL_isSeen_98 rfl ?_
    refine e_getf fL_29 W.obj rfl dL_isSeen_99 ?_
    refine e_iload_n dL_isSeen_102 rfl ?_
    refine e_iaE W.gy (by omega) rfl ek.2 dL_isSeen_103 ?_
    refine e_aload_n dL_isSeen_104 rfl ?_
    refine e_getf fL_29 W.obj rfl dL_isSeen_105 ?_
    refine e_iload dL_isSeen_108 rfl ?_
    refine e_iaE W.gy (by omega) rfl ei.2 dL_isSeen_110 ?_
    refine e_iadd dL_isSeen_111 ?_
    refine e_iconst dL_isSeen_112 ?_
    refine e_irem ⟨by omega, by omega⟩ ⟨by omega, by omega⟩ (by omega) dL_isSeen_113 ?_
    refine e_if_ne (tgt := 121) ⟨by omega, by omega⟩ dL_isSeen_114 rfl (fun c_114 => ?_) (fun c_114 => ?_)
    · refine e_iconst dL_isSeen_121 ?_
      refine e_istore dL_isSeen_122 rfl ?_
      refine e_iload dL_isSeen_124 rfl ?_
      refine e_if_eq (tgt := 188) r32_0 dL_isSeen_126 rfl (fun _ => ?_) (fun c => absurd rfl c)
      exact go _ _ h W (by omega) ⟨rfl, rfl, rfl, rfl, rfl, trivial⟩
    · refine e_iconst dL_isSeen_117 ?_
      refine e_goto (tgt := 122) dL_isSeen_118 rfl ?_
      refine e_istore dL_isSeen_122 rfl ?_
      refine e_iload dL_isSeen_124 rfl ?_
      refine e_if_eq (tgt := 188) ⟨by decide, by decide⟩ dL_isSeen_126 rfl (fun c => absurd c (by decide)) (fun _ => ?_)
      refine e_aload_n dL_isSeen_129 rfl ?_
      refine e_getf fL_10 W.obj rfl dL_isSeen_130 ?_
      refine e_iload_n dL_isSeen_133 rfl ?_
      refine e_iload_n dL_isSeen_134 rfl ?_
      refine e_iload dL_isSeen_135 rfl ?_
      refine e_hs W qcL_229 rfl (fun _ _ _ _ _ _ _ _ _ X => D_sees X ⟨by omega, by omega⟩ (cr9 k9 (by omega)) (cr9 i9 (by omega)) cl9 ⟨by omega, by omega⟩ ⟨by omega, by omega⟩) rfl rfl rfl rfl (by omega) dL_isSeen_137 (fun h W => ?_)
      rw [hS9]
      refine (show Ev _ _ _ _ h _ _ (.int (iN (bC (opn L k9 i9))) :: _) from ?_)
      refine e_ifC_eq (tgt := 188) dL_isSeen_140 rfl (fun c_140 => ?_) (fun c_140 => ?_)
      · exact go _ _ h W (by omega) ⟨rfl, rfl, rfl, rfl, rfl, trivial⟩
      · refine e_aload_n dL_isSeen_143 rfl ?_
        refine e_getf fL_10 W.obj rfl dL_isSeen_144 ?_
        refine e_iload_n dL_isSeen_147 rfl ?_
        refine e_aload_n dL_isSeen_148 rfl ?_
        refine e_getf fL_26 W.obj rfl dL_isSeen_149 ?_
        refine e_iload_n dL_isSeen_152 rfl ?_
        refine e_iaE W.gx (by omega) rfl ek.1 dL_isSeen_153 ?_
        refine e_aload_n dL_isSeen_154 rfl ?_
        refine e_getf fL_26 W.obj rfl dL_isSeen_155 ?_
        refine e_iload dL_isSeen_158 rfl ?_
        refine e_iaE W.gx (by omega) rfl ei.1 dL_isSeen_160 ?_
        refine e_iadd dL_isSeen_161 ?_
        refine e_iconst dL_isSeen_162 ?_
        refine e_idiv ⟨by omega, by omega⟩ ⟨by omega, by omega⟩ (by omega) dL_isSeen_163 ?_
        refine e_aload_n dL_isSeen_164 rfl ?_
        refine e_getf fL_29 W.obj rfl dL_isSeen_165 ?_
        refine e_iload_n dL_isSeen_168 rfl ?_
        refine e_iaE W.gy (by omega) rfl ek.2 dL_isSeen_169 ?_
        refine e_aload_n dL_isSeen_170 rfl ?_
        refine e_getf fL_29 W.obj rfl dL_isSeen_171 ?_
        refine e_iload dL_isSeen_174 rfl ?_
        refine e_iaE W.gy (by omega) rfl ei.2 dL_isSeen_176 ?_
        refine e_iadd dL_isSeen_177 ?_
        refine e_iconst dL_isSeen_178 ?_
        refine e_idiv ⟨by omega, by omega⟩ ⟨by omega, by omega⟩ (by omega) dL_isSeen_179 ?_
        refine e_hs W qcL_201 rfl (fun _ _ _ _ _ _ _ _ _ X => D_polygonLies X ⟨by omega, by omega⟩ cl9 ⟨by omega, by omega⟩ ⟨by omega, by omega⟩) rfl rfl rfl rfl (by omega) dL_isSeen_180 (fun h W => ?_)
        rw [hS9]
        refine e_if_ge (tgt := 188) ⟨by omega, by omega⟩ dL_isSeen_183 rfl (fun _ => ?_) (fun c => absurd (hq (by omega) (by omega) c_140) c)
        exact go _ _ h W (by omega) ⟨rfl, rfl, rfl, rfl, rfl, trivial⟩
set_option maxRecDepth 20000 in
theorem is_inner (hL : polP L) (hx : gxy L GX GY) (hg9 : g9 < 3) (hS : S g9 = L) (cl : closes L) (hG : seeG L) {k9 : Nat} (hk9 : k9 < L.length) (kk : ∀ (k : Nat) (h : g_hp), lwW G x pt (L.length : Int) cr HP XS YS GX GY FX FY P E S b P2 E2 S2 F l h → k ≤ 1 + 55 * k9 + 5 * 10 → Ev (g_B G mL_isSeen 600 (6 * 600) (zQ (fun v h1 => v = .int (iN 1) ∧ lwW G x pt (L.length : Int) cr HP XS YS GX GY FX FY P E S b P2 E2 S2 F l h1))) k (6 * k) none h 194 [(3, .int (iN ((vwN L k9 L.length : Nat) : Int))), (2, .int (iN (k9 : Int))), (1, .int (iN (g9 : Int))), (0, .ref l)] []) : ∀ (n i9 k : Nat) (h : g_hp), lwW G x pt (L.length : Int) cr HP XS YS GX GY FX FY P E S b P2 E2 S2 F l h → i9 + n = L.length → k ≤ 1 + 55 * k9 + 5 * i9 → Ev (g_B G mL_isSeen 600 (6 * 600) (zQ (fun v h1 => v = .int (iN 1) ∧ lwW G x pt (L.length : Int) cr HP XS YS GX GY FX FY P E S b P2 E2 S2 F l h1))) k (6 * k) none h 15 [(4, .int (iN ((i9 : Nat) : Int))), (3, .int (iN ((vwN L k9 (i9) : Nat) : Int))), (2, .int (iN (k9 : Int))), (1, .int (iN (g9 : Int))), (0, .ref l)] []
  | 0, i9, k, h, W, e, hk => by
    have hl := hL.1
    have e9 : i9 = L.length := by omega
    subst e9
    refine e_iload dL_isSeen_15 rfl ?_
    refine e_aload_n dL_isSeen_17 rfl ?_
    refine e_getf fL_174 W.obj rfl dL_isSeen_18 ?_
    refine e_icmp_ge (tgt := 194) ⟨by omega, by omega⟩ ⟨by omega, by omega⟩ dL_isSeen_21 rfl (fun c_9 => ?_) (fun c_9 => absurd (by omega) c_9)
    exact e_loc [(3, .int (iN ((vwN L k9 L.length : Nat) : Int))), (2, .int (iN (k9 : Int))), (1, .int (iN (g9 : Int))), (0, .ref l)] ⟨rfl, rfl, rfl, rfl, trivial⟩ (kk k h W (by omega))
  | n + 1, i9, k, h, W, e, hk => by
    have ih := fun k h W hk => is_inner hL hx hg9 hS cl hG hk9 kk n (i9 + 1) k h W (by omega) hk
    have hl := hL.1
    have hS9 : S ((g9 : Int)).toNat = L := hS
    have cl9 : closes (S ((g9 : Int)).toNat) := by
      rw [hS9]
      exact cl
    have cr9 : ∀ i : Nat, i < L.length → crOK (S ((g9 : Int)).toNat) (i : Int) := fun i hi => by
      rw [hS9]
      exact ⟨by omega, by omega⟩
    have hi9 : i9 < L.length := by omega
    have hs9 := ((hG k9 hk9).1 i9 hi9).1
    have et : (i9 ≠ k9 ∧ opn L k9 i9) → vwN L k9 (i9 + 1) = vwN L k9 i9 + 1 := fun w => cif_t w
    have ef : ¬ (i9 ≠ k9 ∧ opn L k9 i9) → vwN L k9 (i9 + 1) = vwN L k9 i9 := fun w => cif_f w
    refine e_iload dL_isSeen_15 rfl ?_
    refine e_aload_n dL_isSeen_17 rfl ?_
    refine e_getf fL_174 W.obj rfl dL_isSeen_18 ?_
    refine e_icmp_ge (tgt := 194) ⟨by omega, by omega⟩ ⟨by omega, by omega⟩ dL_isSeen_21 rfl (fun c_9 => absurd c_9 (by omega)) (fun c_9 => ?_)
    refine e_aload_n dL_isSeen_24 rfl ?_
    refine e_getf fL_10 W.obj rfl dL_isSeen_25 ?_
    refine e_iload_n dL_isSeen_28 rfl ?_
    refine e_iload_n dL_isSeen_29 rfl ?_
    refine e_iload dL_isSeen_30 rfl ?_
    refine e_hs W qcL_229 rfl (fun _ _ _ _ _ _ _ _ _ X => D_sees X ⟨by omega, by omega⟩ (cr9 k9 (by omega)) (cr9 i9 (by omega)) cl9 ⟨by omega, by omega⟩ ⟨by omega, by omega⟩) rfl rfl rfl rfl (by omega) dL_isSeen_32 (fun h W => ?_)
    rw [hS9]
    refine (show Ev _ _ _ _ h _ _ (.int (iN (bC (opn L k9 i9))) :: _) from ?_)
    refine e_aload_n dL_isSeen_35 rfl ?_
    refine e_getf fL_10 W.obj rfl dL_isSeen_36 ?_
    refine e_iload_n dL_isSeen_39 rfl ?_
    refine e_iload dL_isSeen_40 rfl ?_
    refine e_iload_n dL_isSeen_42 rfl ?_
    refine e_hs W qcL_229 rfl (fun _ _ _ _ _ _ _ _ _ X => D_sees X ⟨by omega, by omega⟩ (cr9 i9 (by omega)) (cr9 k9 (by omega)) cl9 ⟨by omega, by omega⟩ ⟨by omega, by omega⟩) rfl rfl rfl rfl (by omega) dL_isSeen_43 (fun h W => ?_)
    rw [hS9]
    refine (show Ev _ _ _ _ h _ _ (.int (iN (bC (opn L i9 k9))) :: _) from ?_)
    rw [bC_c hs9.symm]
    refine e_same_eq (tgt := 51) dL_isSeen_46 rfl ?_
    refine e_iload_n dL_isSeen_51 rfl ?_
    refine e_iload dL_isSeen_52 rfl ?_
    refine e_iload_n dL_isSeen_54 rfl ?_
    refine e_icmp_eq (tgt := 76) ⟨by omega, by omega⟩ ⟨by omega, by omega⟩ dL_isSeen_55 rfl (fun c_55 => ?_) (fun c_55 => ?_)
    · refine e_iconst dL_isSeen_76 ?_
      have e5 := ef (fun w => w.1 (by omega))
      refine e_iadd dL_isSeen_77 ?_
      refine e_istore_n dL_isSeen_78 rfl ?_
      refine e_loc [(4, .int (iN ((i9 : Nat) : Int))), (3, .int (iN ((vwN L k9 (i9 + 1) : Nat) : Int))), (2, .int (iN (k9 : Int))), (1, .int (iN (g9 : Int))), (0, .ref l)] ⟨rfl, ?_, rfl, rfl, rfl, trivial⟩ (is_mid hL hx hg9 hS cl hG hk9 hi9 ih _ h W (by omega))
      rw [e5]
      rfl
    · refine e_aload_n dL_isSeen_58 rfl ?_
      refine e_getf fL_10 W.obj rfl dL_isSeen_59 ?_
      refine e_iload_n dL_isSeen_62 rfl ?_
      refine e_iload_n dL_isSeen_63 rfl ?_
      refine e_iload dL_isSeen_64 rfl ?_
      refine e_hs W qcL_229 rfl (fun _ _ _ _ _ _ _ _ _ X => D_sees X ⟨by omega, by omega⟩ (cr9 k9 (by omega)) (cr9 i9 (by omega)) cl9 ⟨by omega, by omega⟩ ⟨by omega, by omega⟩) rfl rfl rfl rfl (by omega) dL_isSeen_66 (fun h W => ?_)
      rw [hS9]
      refine (show Ev _ _ _ _ h _ _ (.int (iN (bC (opn L k9 i9))) :: _) from ?_)
      refine e_ifC_eq (tgt := 76) dL_isSeen_69 rfl (fun c_69 => ?_) (fun c_69 => ?_)
      · refine e_iconst dL_isSeen_76 ?_
        have e5 := ef (fun w => c_69 w.2)
        refine e_iadd dL_isSeen_77 ?_
        refine e_istore_n dL_isSeen_78 rfl ?_
        refine e_loc [(4, .int (iN ((i9 : Nat) : Int))), (3, .int (iN ((vwN L k9 (i9 + 1) : Nat) : Int))), (2, .int (iN (k9 : Int))), (1, .int (iN (g9 : Int))), (0, .ref l)] ⟨rfl, ?_, rfl, rfl, rfl, trivial⟩ (is_mid hL hx hg9 hS cl hG hk9 hi9 ih _ h W (by omega))
        rw [e5]
        rfl
      · refine e_iconst dL_isSeen_72 ?_
        refine e_goto (tgt := 77) dL_isSeen_73 rfl ?_
        have e5 := et (⟨by omega, c_69⟩)
        refine e_iadd dL_isSeen_77 ?_
        refine e_istore_n dL_isSeen_78 rfl ?_
        refine e_loc [(4, .int (iN ((i9 : Nat) : Int))), (3, .int (iN ((vwN L k9 (i9 + 1) : Nat) : Int))), (2, .int (iN (k9 : Int))), (1, .int (iN (g9 : Int))), (0, .ref l)] ⟨rfl, ?_, rfl, rfl, rfl, trivial⟩ (is_mid hL hx hg9 hS cl hG hk9 hi9 ih _ h W (by omega))
        rw [e5]
        rfl
set_option maxRecDepth 20000 in
theorem is_outer (hL : polP L) (hx : gxy L GX GY) (hg9 : g9 < 3) (hS : S g9 = L) (cl : closes L) (hG : seeG L) : ∀ (n k9 k : Nat) (h : g_hp), lwW G x pt (L.length : Int) cr HP XS YS GX GY FX FY P E S b P2 E2 S2 F l h → k9 + n = L.length → k ≤ 1 + 55 * k9 → Ev (g_B G mL_isSeen 600 (6 * 600) (zQ (fun v h1 => v = .int (iN 1) ∧ lwW G x pt (L.length : Int) cr HP XS YS GX GY FX FY P E S b P2 E2 S2 F l h1))) k (6 * k) none h 2 [(2, .int (iN ((k9 : Nat) : Int))), (1, .int (iN (g9 : Int))), (0, .ref l)] []
  | 0, k9, k, h, W, e, hk => by
    have hl := hL.1
    refine e_iload_n dL_isSeen_2 rfl ?_
    refine e_aload_n dL_isSeen_3 rfl ?_
    refine e_getf fL_174 W.obj rfl dL_isSeen_4 ?_
    refine e_icmp_ge (tgt := 235) ⟨by omega, by omega⟩ ⟨by omega, by omega⟩ dL_isSeen_7 rfl (fun c_9 => ?_) (fun c_9 => absurd (by omega) c_9)
    refine e_iconst dL_isSeen_235 ?_
    refine e_zret rfl (Or.inr rfl) dL_isSeen_236 (by omega) (by omega) ?_
    exact ⟨rfl, _, rfl, rfl, W⟩
  | n + 1, k9, k, h, W, e, hk => by
    have ih := is_outer hL hx hg9 hS cl hG n (k9 + 1)
    have hl := hL.1
    have hS9 : S ((g9 : Int)).toNat = L := hS
    have cl9 : closes (S ((g9 : Int)).toNat) := by
      rw [hS9]
      exact cl
    have cr9 : ∀ i : Nat, i < L.length → crOK (S ((g9 : Int)).toNat) (i : Int) := fun i hi => by
      rw [hS9]
      exact ⟨by omega, by omega⟩
    have hk9 : k9 < L.length := by omega
    have hn := nxt_lt hk9
    have et := tm_nxt hk9
    have ho := (hG k9 hk9).2
    refine e_iload_n dL_isSeen_2 rfl ?_
    refine e_aload_n dL_isSeen_3 rfl ?_
    refine e_getf fL_174 W.obj rfl dL_isSeen_4 ?_
    refine e_icmp_ge (tgt := 235) ⟨by omega, by omega⟩ ⟨by omega, by omega⟩ dL_isSeen_7 rfl (fun c_9 => absurd c_9 (by omega)) (fun c_9 => ?_)
    refine e_iconst dL_isSeen_10 ?_
    refine e_istore_n dL_isSeen_11 rfl ?_
    refine e_iconst dL_isSeen_12 ?_
    refine e_istore dL_isSeen_13 rfl ?_
    refine e_loc [(4, .int (iN ((0 : Nat) : Int))), (3, .int (iN ((vwN L k9 (0) : Nat) : Int))), (2, .int (iN (k9 : Int))), (1, .int (iN (g9 : Int))), (0, .ref l)] ⟨rfl, rfl, rfl, rfl, rfl, trivial⟩ ?_
    refine is_inner hL hx hg9 hS cl hG hk9 (fun k h W hk => ?_) L.length 0 k h W (Nat.zero_add _) (by omega)
    refine e_aload_n dL_isSeen_194 rfl ?_
    refine e_getf fL_10 W.obj rfl dL_isSeen_195 ?_
    refine e_iload_n dL_isSeen_198 rfl ?_
    refine e_iload_n dL_isSeen_199 rfl ?_
    refine e_hs W qcL_233 rfl (fun _ _ _ _ _ _ _ _ _ X => D_view X ⟨by omega, by omega⟩ (cr9 k9 hk9) cl9 ⟨by omega, by omega⟩) rfl rfl rfl rfl (by omega) dL_isSeen_200 (fun h W => ?_)
    rw [hS9]
    refine (show Ev _ _ _ _ h _ _ (.int (iN ((vwN L k9 L.length : Nat) : Int)) :: []) from ?_)
    refine e_iload_n dL_isSeen_203 rfl ?_
    refine e_same_ne (tgt := 227) dL_isSeen_204 rfl ?_
    refine e_aload_n dL_isSeen_207 rfl ?_
    refine e_getf fL_10 W.obj rfl dL_isSeen_208 ?_
    refine e_iload_n dL_isSeen_211 rfl ?_
    refine e_iload_n dL_isSeen_212 rfl ?_
    refine e_iload_n dL_isSeen_213 rfl ?_
    refine e_iconst dL_isSeen_214 ?_
    refine e_iadd dL_isSeen_215 ?_
    refine e_aload_n dL_isSeen_216 rfl ?_
    refine e_getf fL_174 W.obj rfl dL_isSeen_217 ?_
    refine e_irem ⟨by omega, by omega⟩ ⟨by omega, by omega⟩ (by omega) dL_isSeen_220 ?_
    rw [et]
    refine e_hs W qcL_229 rfl (fun _ _ _ _ _ _ _ _ _ X => D_sees X ⟨by omega, by omega⟩ (cr9 k9 hk9) (cr9 _ hn) cl9 ⟨by omega, by omega⟩ ⟨by omega, by omega⟩) rfl rfl rfl rfl (by omega) dL_isSeen_221 (fun h W => ?_)
    rw [hS9, bC_t (show opn L ((k9 : Int)).toNat (((nxt L.length k9 : Nat) : Int)).toNat from ho)]
    refine e_if_ne (tgt := 229) ⟨by omega, by omega⟩ dL_isSeen_224 rfl (fun _ => ?_) (fun c => absurd (show ¬ (1 : Int) = 0 by decide) c)
    refine e_iinc dL_isSeen_229 rfl ?_
    refine e_goto (tgt := 2) dL_isSeen_232 rfl ?_
    exact e_loc [(2, .int (iN ((k9 + 1 : Nat) : Int))), (1, .int (iN (g9 : Int))), (0, .ref l)] ⟨rfl, rfl, rfl, trivial⟩ (ih _ h W (by omega) (by omega))
set_option maxRecDepth 20000 in
theorem L_isSeen (hL : polP L) (hx : gxy L GX GY) (hg9 : g9 < 3) (hS : S g9 = L) (cl : closes L) (hG : seeG L) (W : lwW G x pt (L.length : Int) cr HP XS YS GX GY FX FY P E S b P2 E2 S2 F l h) : Run G mL_isSeen [.ref l, .int (iN (g9 : Int))] none h 600 (6 * 600) (zQ (fun v h1 => v = .int (iN 1) ∧ lwW G x pt (L.length : Int) cr HP XS YS GX GY FX FY P E S b P2 E2 S2 F l h1)) := by
  refine run_L rfl plL rfl ?_
  refine e_iconst dL_isSeen_0 ?_
  refine e_istore_n dL_isSeen_1 rfl ?_
  refine e_loc [(2, .int (iN ((0 : Nat) : Int))), (1, .int (iN (g9 : Int))), (0, .ref l)] ⟨rfl, rfl, rfl, trivial⟩ ?_
  exact is_outer hL hx hg9 hS cl hG L.length 0 _ h W (Nat.zero_add _) (by omega)
end LAW13
