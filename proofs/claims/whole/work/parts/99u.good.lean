/-! All that is owed of a good state -/
def cvg (F : PL) : Prop := cvx F ∧ ∀ i, i < F.length → pX F 0 ≤ pX F i
theorem cvg_of {D : Pt → Prop} {W : PL} (h : hul D W) (c : cvx W) : cvg W := by
  refine ⟨c, fun i hi => ?_⟩
  have l := h.2.2.1 _ (h.2.1 i hi)
  have b1 := c.2.1 i hi
  have b0 := c.2.1 0 (by omega)
  have l : 100000 * pX W 0 + 1 * pY W 0 ≤ 100000 * pX W i + 1 * pY W i := l
  omega
theorem hT_good : lwT (Gd3 cvg) :=
  Gd3_T (fun P a hP hc => cvg_of (put_hul hP hc).1 (put_hul hP hc).2.1)
    (fun P a b1 hP hc => cvg_of (jn_hul hP hc).1 (jn_hul hP hc).2.1)
    (fun P a b1 hP hc => cvg_of (sm_hul hP hc).1 (sm_hul hP hc).2.1)
    (fun P a l hP hc => cvg_of (ly_hul (lyI_all (a := a) hP (min l 60).toNat) (Nat.pos_of_ne_zero hc)).1 (ly_hul (lyI_all (a := a) hP (min l 60).toNat) (Nat.pos_of_ne_zero hc)).2.1)
    (fun S j hS hj hc => cvg_of (ho_hul (hS j hj).2.1 hc (Nat.le_trans (hS j hj).1 (by decide))).1 (ho_hul (hS j hj).2.1 hc (Nat.le_trans (hS j hj).1 (by decide))).2.1)
theorem hG_good : Gd3 cvg [] [] (fun _ => []) 0 [] [] (fun _ => []) [] := Gd3_0 ⟨cvx_nil, fun i hi => absurd hi (Nat.not_lt_zero _)⟩
theorem hQ_good (P E : PL) (S : Nat → PL) (b : Int) (P2 E2 : PL) (S2 : Nat → PL) (F : PL) (h : Gd3 cvg P E S b P2 E2 S2 F) : lwQ P E S b P2 E2 S2 F := by
  obtain ⟨⟨hP, hE, hS⟩, hb, -, hF, hm⟩ := h
  have gc : ∀ g, g < 4 → (gdM (S g) ↔ closes (S g)) := fun g _ => q_hgc _
  have hd : ∀ g : Nat, g < 4 → closes (S g) → da (S g) ≠ 0 := fun g hg hc => q_tri_hd hc (hS g hg).2.1
  have mk : ∀ g : Nat, g < 4 → ∀ i, i < (S g).length → pM (S g) i = (i : Int) := fun g hg i hi => (hS g hg).2.2 i hi
  have se : ∀ g : Nat, g < 4 → closes (S g) → ∀ a c : Nat, a < (S g).length → c < (S g).length → (dsM (S g) a c ↔ opn (S g) a c) := fun g hg hc a c ha hc' => q_sees hc (hS g hg).2.1 ha hc'
  have fi := q_fills hF.2.1 hm hF.2.2.1
  refine ⟨?_, ?_, ?_, ?_, ?_, ?_, ?_, ?_, ?_, ?_, ?_, ?_, ?_, ?_, ?_, ?_, gc, gc, gc, ?_, gc, ?_, gc, gc, hd, mk, gc, hd, mk, gc, se, gc, se, ?_, ?_, ?_, ?_, ?_, ?_, ?_, ?_, ?_, ?_, ?_, fi.1, fi.2.1, fi.2.2.1, fi.2.2.2, ?_, ?_⟩
  · exact fun a q hq => q_sorted P a q hq
  · exact fun a => q_places P a
  · exact fun a hc => q_hull hP a hc
  · exact fun a b1 hc => q_join hP a b1 hc
  · exact fun v hc => q_sumh hP v hc
  · exact fun a b1 hc => q_sum hP a b1 hc
  · exact fun a k => q_layerg hP k
  · exact fun a => q_layers hP
  · exact fun a k => q_layerg hP k
  · exact fun a q hq => q_layer hP q hq
  · exact fun a l hl => q_layer2 hP l hl
  · exact fun g hg h0 => q_hullOf (hS g hg).2.1 h0 (Nat.le_trans (hS g hg).1 (by decide))
  · exact q_inner hF
  · exact fun x y => sd_wI hF.2.2.1 x y
  · exact hF.2.1
  · exact fun u _ h3 => q_width hF.2.2.2 u h3
  · exact fun g hg hc => q_pInner hc (hS g hg).2.1
  · exact fun x y g hg hx => q_plies (hS g hg).2.1 x y hx
  · exact hE.1
  · exact fun a u _ hc => q_pair hP.1 a u hc
  · exact fun a u _ hc => q_pair hP.1 a u hc
  · exact fun a hc w hw => q_box P a hc w hw
  · exact fun a q h1 h2 => q_fence hP.2 h1 h2
  · exact fun v hc => q_hull hP v hc
  · exact fun a b1 hc => q_apart hP a b1 hc
  · show r32 b
    omega
  · exact fun a hc => q_meanN hP.1 a hc
  · exact fun a hc => q_mean P a hc
  · exact fun a hc => q_meanN hP.1 a hc
  · exact fun v _ => q_stray hP v
  · exact fun j hj hc => q_nf hc (hS j hj).2.1 (hS j hj).1
