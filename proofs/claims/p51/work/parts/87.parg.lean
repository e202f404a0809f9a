/-! The mathematics of the law's checks: the parting; and all of it -/
/-- the triangle that a number tells, and its size -/
def tAr (L : PL) (c : Int) : Int := ((tw3 L (c / 10000).toNat (c / 100 % 100).toNat L (c % 100).toNat).natAbs : Int)
def gT (L : PL) (k : Int) : Prop := ∃ a c d : Nat, (a < L.length ∧ c < L.length ∧ d < L.length) ∧ k = ((10000 * a + 100 * c + d : Nat) : Int) ∧ opn L a d ∧ opn L a c ∧ opn L c d
def sAr (L : PL) : List Int → Int
  | [] => 0
  | k :: R => tAr L k + sAr L R
section MPAR
variable {w : Int} {a c d i j k n e : Nat} {L M : PL} {Ts : List P3} {T : P3}
theorem sAr_app (L : PL) (R : List Int) (k : Int) : sAr L (k :: R) = tAr L k + sAr L R := rfl
theorem sAr_sum (L : PL) : ∀ R : List Int, sumN (fun t => tAr L (R.getD t 0)) R.length = sAr L R
  | [] => rfl
  | k :: R => by
    have ih := sAr_sum L R
    show sumN (fun t => tAr L ((k :: R).getD t 0)) (R.length + 1) = tAr L k + sAr L R
    rw [sumN_f, ← ih]
    rfl
theorem tAr_code (hl : L.length ≤ 100) (h1 : a < L.length) (h2 : c < L.length) (h3 : d < L.length) : tAr L ((10000 * a + 100 * c + d : Nat) : Int) = ((T3 (pt L a) (pt L c) (pt L d)).natAbs : Int) := by
  unfold tAr
  rw [show (((10000 * a + 100 * c + d : Nat) : Int) / 10000).toNat = a by omega, show (((10000 * a + 100 * c + d : Nat) : Int) / 100 % 100).toNat = c by omega, show (((10000 * a + 100 * c + d : Nat) : Int) % 100).toNat = d by omega]
  rfl
/-- which corner of L one that is left is -/
theorem M_idx (hG : inG L) (h : Jp L M w Ts) (hi : i < M.length) : ∃ a, a < L.length ∧ pM M i = (a : Int) ∧ pt M i = pt L a := by
  have m := h.2.1 _ (getD_mem hi)
  obtain ⟨k, hk, ek⟩ := List.mem_iff_getElem.mp m
  have e : L.getD k d3 = M.getD i d3 := by
    rw [List.getD_eq_getElem?_getD, List.getElem?_eq_getElem hk]
    exact ek
  refine ⟨k, hk, ?_, ?_⟩
  · have g := (hG k hk).2.2
    have g' : (L.getD k d3).2.2 = (k : Int) := g
    show (M.getD i d3).2.2 = _
    rw [← e]
    exact g'
  · show ((M.getD i d3).1, (M.getD i d3).2.1) = ((L.getD k d3).1, (L.getD k d3).2.1)
    rw [e]
theorem par_R (hG : inG L) (hl : L.length ≤ 10) (hL : Smp (-1) 100000 (pt L) L.length) (hwL : 2 * mu (-1) 100000 (pt L) L.length + 1 = w) : ∀ (f : Nat) (M : PL) (Ts : List P3) (T : List Int) (a0 : Int), M.length ≤ f + 3 → Jp L M w Ts → ∃ R : List Int, (parF w f M T a0).2.1 = T ++ R ∧ R.length = M.length - 2 ∧ (parF w f M T a0).2.2 = a0 + sAr L R ∧ ∀ k, k ∈ R → gT L k := by
  have hb : ∀ i, i < L.length → -400 ≤ pX L i ∧ pX L i ≤ 400 := fun i hi => by
    have := hG i hi
    omega
  have m01 := mu_01 hL
  have hw : w = 1 ∨ w = -1 := by omega
  have fin : ∀ (M : PL) (Ts : List P3) (T : List Int) (a0 : Int), M.length = 3 → Jp L M w Ts → ∃ R : List Int, (parZ M T a0).2.1 = T ++ R ∧ R.length = M.length - 2 ∧ (parZ M T a0).2.2 = a0 + sAr L R ∧ ∀ k, k ∈ R → gT L k := fun M Ts T a0 h3 h => by
    obtain ⟨x0, y0, m0, p0⟩ := M_idx hG h (i := 0) (by omega)
    obtain ⟨x1, y1, m1, p1⟩ := M_idx hG h (i := 1) (by omega)
    obtain ⟨x2, y2, m2, p2⟩ := M_idx hG h (i := 2) (by omega)
    have s0 := J_opn hL h hwL hb (j := 0) (by omega) (a := x0) (c := x1) p0 (by rw [h3]; exact p1)
    have s1 := J_opn hL h hwL hb (j := 1) (by omega) (a := x1) (c := x2) p1 (by rw [h3]; exact p2)
    have s2 := J_opn hL h hwL hb (j := 2) (by omega) (a := x2) (c := x0) p2 (by rw [h3]; exact p0)
    have ek : tri3 M 0 1 2 = ((10000 * x0 + 100 * x1 + x2 : Nat) : Int) := by
      show 10000 * pM M 0 + 100 * pM M 1 + pM M 2 = _
      rw [m0, m1, m2]
      omega
    have ea : ab3 M 0 1 2 = ((T3 (pt L x0) (pt L x1) (pt L x2)).natAbs : Int) := by
      rw [← p0, ← p1, ← p2]
      rfl
    unfold parZ
    rw [if_pos h3]
    refine ⟨[tri3 M 0 1 2], rfl, by rw [h3]; rfl, ?_, fun k hk => ?_⟩
    · show a0 + ab3 M 0 1 2 = a0 + (tAr L (tri3 M 0 1 2) + 0)
      rw [ek, tAr_code (by omega) y0 y1 y2, ea, Int.add_zero]
    · rw [List.mem_singleton.mp hk]
      exact ⟨x0, x1, x2, ⟨y0, y1, y2⟩, ek, opn_sw s2, s0, s1⟩
  intro f
  induction f with
  | zero =>
    intro M Ts T a0 hl3 h
    have h3 := h.1.1.1
    exact fin M Ts T a0 (by omega) h
  | succ f ih =>
    intro M Ts T a0 hl3 h
    have h3 := h.1.1.1
    show ∃ R : List Int, (parS w M T a0 (parF w f)).2.1 = T ++ R ∧ _
    show ∃ R : List Int, (parS w M T a0 (parF w f)).2.1 = T ++ R ∧ R.length = M.length - 2 ∧ (parS w M T a0 (parF w f)).2.2 = a0 + sAr L R ∧ ∀ k, k ∈ R → gT L k
    by_cases c : 3 < M.length
    · obtain ⟨i, hi, -, -, hE⟩ := ear_ex (by decide) (M.length + 1) M.length (pt M) (by omega) h.1.1 0 (by omega)
      rw [h.1.2] at hE
      obtain ⟨e, k1, k2, k3⟩ := fEa_ex (L := M) (w := w) M.length 0 ⟨i, Nat.zero_le _, by omega, (earP_E hw).mpr hE⟩
      have he : e < M.length := by omega
      have hE2 := (earP_E hw).mp k2
      have J2 := J_step h hw c he hE2
      have hl2 : (M.eraseIdx e).length = M.length - 1 := List.length_eraseIdx_of_lt he
      rw [parS_s c k1]
      obtain ⟨R, r1, r2, r3, r4⟩ := ih (M.eraseIdx e) _ (T ++ [tri3 M (prv M.length e) e (nxt M.length e)]) (a0 + ab3 M (prv M.length e) e (nxt M.length e)) (by omega) J2
      obtain ⟨x0, y0, m0, p0⟩ := M_idx hG h (i := prv M.length e) (prv_lt he)
      obtain ⟨x1, y1, m1, p1⟩ := M_idx hG h (i := e) he
      obtain ⟨x2, y2, m2, p2⟩ := M_idx hG h (i := nxt M.length e) (nxt_lt he)
      have s0 := J_opn hL h hwL hb (j := prv M.length e) (prv_lt he) (a := x0) (c := x1) p0 (by rw [nxt_prv he]; exact p1)
      have s1 := J_opn hL h hwL hb (j := e) he (a := x1) (c := x2) p1 p2
      obtain ⟨j', j1, j2, j3⟩ := ers_pn (v := pt M) c he
      have s2 := J_opn hL J2 hwL hb (j := j') (by omega) (a := x0) (c := x2) (by rw [pt_er, j2]; exact p0) (by rw [hl2, pt_er, j3]; exact p2)
      have ek : tri3 M (prv M.length e) e (nxt M.length e) = ((10000 * x0 + 100 * x1 + x2 : Nat) : Int) := by
        show 10000 * pM M _ + 100 * pM M _ + pM M _ = _
        rw [m0, m1, m2]
        omega
      have ea : ab3 M (prv M.length e) e (nxt M.length e) = ((T3 (pt L x0) (pt L x1) (pt L x2)).natAbs : Int) := by
        rw [← p0, ← p1, ← p2]
        rfl
      refine ⟨tri3 M (prv M.length e) e (nxt M.length e) :: R, ?_, ?_, ?_, fun k hk => ?_⟩
      · rw [r1, List.append_assoc]
        rfl
      · show R.length + 1 = _
        omega
      · rw [r3, sAr_app, ek, tAr_code (by omega) y0 y1 y2, ea]
        omega
      · rcases List.mem_cons.mp hk with g | g
        · rw [g]
          exact ⟨x0, x1, x2, ⟨y0, y1, y2⟩, ek, s2, s0, s1⟩
        · exact r4 k g
    · rw [parS_z c]
      exact fin M Ts T a0 (by omega) h
theorem m_par (hP : polP L) (hc : closes L) : parG L := by
  obtain ⟨⟨l1, l2⟩, hG⟩ := hP
  have hok : okP L := fun i hi => by
    have := hG i hi
    omega
  obtain ⟨h, hv⟩ := Smp_P hc hok
  have pk := pick_abs (R := 200) (by decide) h hv
  have J0 : Jp L L (sg (da L)) [] := ⟨⟨h, pk.2.2.symm⟩, fun e he => he, fun T hT => absurd hT List.not_mem_nil, fun D _ A B z => by
    show _ = _ + 0
    omega, fun i hi => Or.inl ⟨i, hi, rfl, rfl⟩⟩
  obtain ⟨R, r1, r2, r3, r4⟩ := par_R hG l2 h pk.2.2.symm 16 L [] [] 0 (by omega) J0
  have eR : (parD L).2.1 = R := r1
  refine ⟨by rw [eR]; exact r2, fun t ht => ?_, ?_⟩
  · have hm : R.getD t 0 ∈ R := by
      rw [List.getD_eq_getElem?_getD, List.getElem?_eq_getElem (by omega)]
      exact List.getElem_mem _
    have e : triV L t = R.getD t 0 := by
      unfold triV
      rw [eR]
    rw [e]
    exact r4 _ hm
  · have qa := q_parD hc hok (by omega)
    have qa' : 0 + sAr L R = ((da L).natAbs : Int) := by
      rw [← r3]
      exact qa
    rw [← r2, ← qa', Int.zero_add, ← sAr_sum]
    refine sumN_cg _ fun t _ => ?_
    show triT L t = tAr L (R.getD t 0)
    unfold triT triV
    rw [eR]
    rfl
theorem m_polG (hP : polP L) : polG L := by
  have l1 := hP.1.1
  have l2 := hP.1.2
  have hG := hP.2
  have hok : okP L := fun i hi => by
    have := hG i hi
    omega
  obtain ⟨hH, cH, lH⟩ := ho_hul hok (by omega) (by omega)
  refine ⟨fig_of hH cH lH (mm_fil _ _ hH cH), fun i hi => hul_in hH cH.2.2.1 ⟨i, hi, rfl⟩, m_tou l1, fun hc => ?_⟩
  obtain ⟨b1, b2⟩ := m_big hP hc
  exact ⟨b1, b2, m_par hP hc, m_see (Smp_P hc hok).1⟩
end MPAR
theorem lwM_holds : lwM := by
  refine ⟨fun P hg => ⟨fun v hv => q_sumh (good_g3 hg) v hv, fun i hi => ⟨?_, fun j hj => ?_⟩, m_drF hg, fun S hS => m_erF hg hS⟩, fun L hL => m_polG hL, fun E _ => m_lnF E⟩
  · have hc : cntN P (pM P i) P.length ≠ 0 := cnt_at hi rfl
    have hl := hg.1.2
    exact ⟨m_hfA hg hc mm_fil, m_hfD (good_g3 hg) hc, (m_layF hg).2, (m_layF hg).1, m_fenF hg hi, m_srtF, m_srtG, m_plcF, m_disF (by omega), m_disF (by omega)⟩
  · have hc : fl2 P (pM P i) (pM P j) := ⟨cnt_at hi rfl, cnt_at hj rfl⟩
    exact ⟨m_hfS hg hc mm_fil, m_hfJ hg hc mm_fil, m_swap (good_g3 hg) hc, m_apaF hg hi hj⟩
