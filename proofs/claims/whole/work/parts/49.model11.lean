/-! The reference: polygons -/
theorem mod_nxt {n k : Nat} (hk : k < n) : (k + 1) % n = nxt n k := by
  unfold nxt
  by_cases c : k + 1 < n
  · rw [if_pos c, Nat.mod_eq_of_lt c]
  · rw [if_neg c, show k + 1 = n by omega, Nat.mod_self]
abbrev nX (L : PL) (i : Nat) : Int := pX L (nxt L.length i)
abbrev nY (L : PL) (i : Nat) : Int := pY L (nxt L.length i)
/-- what makes the edges of the corners k and o, o ahead of k, bad -/
def bdM (L : PL) (k o : Nat) : Prop := (pX L k = pX L o ∧ pY L k = pY L o) ∨ (k = o + 1 ∧ (on (pX L o) (pY L o) (nX L o) (nY L o) (nX L k) (nY L k) ∨ on (pX L k) (pY L k) (nX L k) (nY L k) (pX L o) (pY L o))) ∨ ((o = 0 ∧ k = L.length - 1) ∧ (on (pX L o) (pY L o) (nX L o) (nY L o) (pX L k) (pY L k) ∨ on (pX L k) (pY L k) (nX L k) (nY L k) (nX L o) (nY L o))) ∨ (¬ k = o + 1 ∧ ¬ (o = 0 ∧ k = L.length - 1) ∧ tou (pX L k) (pY L k) (nX L k) (nY L k) (pX L o) (pY L o) (nX L o) (nY L o))
def gdM (L : PL) : Prop := 3 ≤ L.length ∧ ∀ k, k < L.length → ∀ o, o < k → ¬ bdM L k o
theorem sg_p {v : Int} : 0 < sg v ↔ 0 < v := by unfold sg; constructor <;> (intro w; split at * <;> (try split at *) <;> omega)
/-- a place at the height of an edge that goes past it, in line with it, is on it -/
theorem cross_on {ax ay bx by' x y : Int} (h : ¬ (y < ay ↔ y < by')) (t : tw ax ay bx by' x y = 0) : on ax ay bx by' x y := by
  refine on_iff.mpr ⟨t, ?_, ?_⟩
  · unfold tw at t
    have t2 : (bx - ax) * (y - ay) = (by' - ay) * (x - ax) := by omega
    have key : (by' - ay) * (by' - ay) * ((x - ax) * (x - bx)) = (bx - ax) * (bx - ax) * ((y - ay) * (y - by')) := by
      have e1 : (by' - ay) * (x - bx) = (bx - ax) * (y - by') := by
        have : (by' - ay) * (x - bx) = (by' - ay) * (x - ax) - (by' - ay) * (bx - ax) := by rw [← Int.mul_sub]; congr 1; omega
        rw [this, ← t2, Int.mul_comm (by' - ay) (bx - ax), ← Int.mul_sub]
        congr 1
        omega
      calc (by' - ay) * (by' - ay) * ((x - ax) * (x - bx)) = ((by' - ay) * (x - ax)) * ((by' - ay) * (x - bx)) := by simp only [Int.mul_assoc, Int.mul_left_comm]
        _ = ((bx - ax) * (y - ay)) * ((bx - ax) * (y - by')) := by rw [← t2, e1]
        _ = _ := by simp only [Int.mul_assoc, Int.mul_left_comm]
    have hy : (y - ay) * (y - by') ≤ 0 := prod_le.mpr (by omega)
    have hd : by' - ay ≠ 0 := by omega
    have hp : 0 < (by' - ay) * (by' - ay) := by
      rcases Int.lt_or_lt_of_ne hd with w | w
      · exact Int.mul_pos_of_neg_of_neg w w
      · exact Int.mul_pos w w
    have hn : 0 ≤ (bx - ax) * (bx - ax) := by rcases Int.le_total 0 (bx - ax) with w | w; exact Int.mul_nonneg w w; exact Int.mul_nonneg_of_nonpos_of_nonpos w w
    have h2 : (bx - ax) * (bx - ax) * ((y - ay) * (y - by')) ≤ 0 := Int.mul_nonpos_of_nonneg_of_nonpos hn hy
    rw [← key] at h2
    apply Classical.byContradiction
    intro c
    exact absurd (Int.mul_pos hp (Int.not_le.mp c)) (Int.not_lt.mpr h2)
  · exact prod_le.mpr (by omega)
section MELEVEN
variable {G : g_X} {sc sc0 : Nat → Int} {ar : Nat → Nat → Int} {m : Nat} {h0 h : g_hp} {P E : PL} {S : Nat → PL} {b : Int} {P2 E2 : PL} {S2 : Nat → PL} {F : PL}
theorem S_corner0 (X : mdX G sc ar m h0 h) (hS : mdS ar S) {g : Nat} (hg : g < 4) {k : Nat} (hk : k < (S g).length) : Pure G mX8_cornerOf [.ref m, .int (iN g), .int (iN k)] h (.int (iN (16 * (g : Int) + (k : Int)))) := by
  have s2 := (hS g hg).2.1
  have := S_cornerOf X hS hg (show 0 < (S g).length by omega) (k := k) (by omega)
  rw [Nat.mod_eq_of_lt hk] at this
  exact this
theorem S_corner1 (X : mdX G sc ar m h0 h) (hS : mdS ar S) {g : Nat} (hg : g < 4) {k : Nat} (hk : k < (S g).length) : Pure G mX8_cornerOf [.ref m, .int (iN g), .int (iN ((k : Int) + 1))] h (.int (iN (16 * (g : Int) + ((nxt (S g).length k : Nat) : Int)))) := by
  have s2 := (hS g hg).2.1
  have := S_cornerOf X hS hg (show 0 < (S g).length by omega) (k := k + 1) (by omega)
  rw [mod_nxt hk] at this
  exact this
set_option maxRecDepth 20000 in
theorem gd_c {z : Option Nat} {g k o : Nat} (kk : ∀ sc1 h, mdX G sc1 ar m h0 h → agr [17, 18, 19, 20, 21, 22, 23, 24] [] sc ar sc1 ar → ¬ bdM (S g) k o → Ev (g_B G mX8_isGood 0 0 (fun o1 z1 h1 => ∃ v, o1 = .inl v ∧ z1 = z ∧ (fun v h1 => v = some (.int (iN (bC (gdM (S g))))) ∧ ∃ sc2, mdX G sc2 ar m h0 h1 ∧ agr [17, 18, 19, 20, 21, 22, 23, 24] [] sc ar sc2 ar) v h1)) 0 0 z h 379 [(4, .int (iN (o : Nat))), (3, .int (iN (k : Nat))), (2, .int (iN (S g).length)), (0, .ref m), (1, .int (iN g))] []) (hb : bdM (S g) k o → bC (gdM (S g)) = 0) (hns : ¬ (pX (S g) k = pX (S g) o ∧ pY (S g) k = pY (S g) o)) {sc1 : Nat → Int} (X : mdX G sc1 ar m h0 h) (hA : agr [17, 18, 19, 20, 21, 22, 23, 24] [] sc ar sc1 ar) (h8 : st8 sc1 (pX (S g) k) (pY (S g) k) (nX (S g) k) (nY (S g) k) (pX (S g) o) (pY (S g) o) (nX (S g) o) (nY (S g) o)) : Ev (g_B G mX8_isGood 0 0 (fun o1 z1 h1 => ∃ v, o1 = .inl v ∧ z1 = z ∧ (fun v h1 => v = some (.int (iN (bC (gdM (S g))))) ∧ ∃ sc2, mdX G sc2 ar m h0 h1 ∧ agr [17, 18, 19, 20, 21, 22, 23, 24] [] sc ar sc2 ar) v h1)) 0 0 z h 202 [(10, .int (iN (bP (o = 0 ∧ k = (S g).length - 1)))), (9, .int (iN (bP (k = o + 1)))), (4, .int (iN (o : Nat))), (3, .int (iN (k : Nat))), (2, .int (iN (S g).length)), (0, .ref m), (1, .int (iN g))] [] := by
  obtain ⟨⟨v1, v2, v3, v4, v5, v6, v7, v8⟩, ⟨w1, w2, w3, w4⟩, w5, w6, w7, w8⟩ := id h8
  letI : Decidable (tou (pX (S g) k) (pY (S g) k) (nX (S g) k) (nY (S g) k) (pX (S g) o) (pY (S g) o) (nX (S g) o) (nY (S g) o)) := Classical.propDecidable _
  refine e_iload dX8_isGood_202 rfl ?_
  refine e_ifP_eq (tgt := 281) dX8_isGood_204 rfl (fun c_204 => ?_) (fun c_204 => ?_)
  · refine e_iload dX8_isGood_281 rfl ?_
    refine e_ifP_eq (tgt := 360) dX8_isGood_283 rfl (fun c_283 => ?_) (fun c_283 => ?_)
    · refine e_iload dX8_isGood_360 rfl ?_
      refine e_ifP_ne (tgt := 379) dX8_isGood_362 rfl (fun c_362 => ?_) (fun c_362 => ?_)
      · exact e_loc [(4, .int (iN (o : Nat))), (3, .int (iN (k : Nat))), (2, .int (iN (S g).length)), (0, .ref m), (1, .int (iN g))] ⟨rfl, rfl, rfl, rfl, rfl, trivial⟩ (kk _ _ X hA (fun w => w.elim hns (fun w => w.elim (fun w => (by first | exact c_204 w.1 | exact w.2.elim c_240 c_276)) (fun w => w.elim (fun w => (by first | exact c_283 w.1 | exact w.2.elim c_319 c_355)) (fun w => (by first | exact w.1 c_362 | exact w.2.1 c_367 | exact c_374 w.2.2))))))
      · refine e_iload dX8_isGood_365 rfl ?_
        refine e_ifP_ne (tgt := 379) dX8_isGood_367 rfl (fun c_367 => ?_) (fun c_367 => ?_)
        · exact e_loc [(4, .int (iN (o : Nat))), (3, .int (iN (k : Nat))), (2, .int (iN (S g).length)), (0, .ref m), (1, .int (iN g))] ⟨rfl, rfl, rfl, rfl, rfl, trivial⟩ (kk _ _ X hA (fun w => w.elim hns (fun w => w.elim (fun w => (by first | exact c_204 w.1 | exact w.2.elim c_240 c_276)) (fun w => w.elim (fun w => (by first | exact c_283 w.1 | exact w.2.elim c_319 c_355)) (fun w => (by first | exact w.1 c_362 | exact w.2.1 c_367 | exact c_374 w.2.2))))))
        · refine e_aload_n dX8_isGood_370 rfl ?_
          refine e_pureV qcX8_236 X.obj rfl rfl (S_doTouch X h8) rfl rfl rfl rfl dX8_isGood_371 ?_
          refine e_ifP_eq (tgt := 379) dX8_isGood_374 rfl (fun c_374 => ?_) (fun c_374 => ?_)
          · exact e_loc [(4, .int (iN (o : Nat))), (3, .int (iN (k : Nat))), (2, .int (iN (S g).length)), (0, .ref m), (1, .int (iN g))] ⟨rfl, rfl, rfl, rfl, rfl, trivial⟩ (kk _ _ X hA (fun w => w.elim hns (fun w => w.elim (fun w => (by first | exact c_204 w.1 | exact w.2.elim c_240 c_276)) (fun w => w.elim (fun w => (by first | exact c_283 w.1 | exact w.2.elim c_319 c_355)) (fun w => (by first | exact w.1 c_362 | exact w.2.1 c_367 | exact c_374 w.2.2))))))
          · have e5 : bdM (S g) k o := Or.inr (Or.inr (Or.inr ⟨c_362, c_367, c_374⟩))
            refine e_iconst dX8_isGood_377 ?_
            refine e_zret rfl (by first | exact Or.inl rfl | exact Or.inr rfl | exact bP_01 _) dX8_isGood_378 (by decide) (by decide) ?_
            exact ⟨_, rfl, rfl, by rw [hb e5], _, X, hA⟩
    · refine e_aload_n dX8_isGood_286 rfl ?_
      refine e_getf fX8_210 X.obj rfl dX8_isGood_287 ?_
      rw [v5]
      refine e_i2l ⟨by omega, by omega⟩ dX8_isGood_290 ?_
      refine e_aload_n dX8_isGood_291 rfl ?_
      refine e_getf fX8_213 X.obj rfl dX8_isGood_292 ?_
      rw [v6]
      refine e_i2l ⟨by omega, by omega⟩ dX8_isGood_295 ?_
      refine e_aload_n dX8_isGood_296 rfl ?_
      refine e_getf fX8_216 X.obj rfl dX8_isGood_297 ?_
      rw [v7]
      refine e_i2l ⟨by omega, by omega⟩ dX8_isGood_300 ?_
      refine e_aload_n dX8_isGood_301 rfl ?_
      refine e_getf fX8_219 X.obj rfl dX8_isGood_302 ?_
      rw [v8]
      refine e_i2l ⟨by omega, by omega⟩ dX8_isGood_305 ?_
      refine e_aload_n dX8_isGood_306 rfl ?_
      refine e_getf fX8_198 X.obj rfl dX8_isGood_307 ?_
      rw [v1]
      refine e_i2l ⟨by omega, by omega⟩ dX8_isGood_310 ?_
      refine e_aload_n dX8_isGood_311 rfl ?_
      refine e_getf fX8_201 X.obj rfl dX8_isGood_312 ?_
      rw [v2]
      refine e_i2l ⟨by omega, by omega⟩ dX8_isGood_315 ?_
      refine e_pureS qcX8_169 (S_misOn w5 w6 w7 w8 ⟨by omega, by omega⟩ ⟨by omega, by omega⟩) rfl rfl rfl rfl dX8_isGood_316 ?_
      refine e_ifP_ne (tgt := 358) dX8_isGood_319 rfl (fun c_319 => ?_) (fun c_319 => ?_)
      · have e5 : bdM (S g) k o := Or.inr (Or.inr (Or.inl ⟨c_283, Or.inl c_319⟩))
        refine e_iconst dX8_isGood_358 ?_
        refine e_zret rfl (by first | exact Or.inl rfl | exact Or.inr rfl | exact bP_01 _) dX8_isGood_359 (by decide) (by decide) ?_
        exact ⟨_, rfl, rfl, by rw [hb e5], _, X, hA⟩
      · refine e_aload_n dX8_isGood_322 rfl ?_
        refine e_getf fX8_198 X.obj rfl dX8_isGood_323 ?_
        rw [v1]
        refine e_i2l ⟨by omega, by omega⟩ dX8_isGood_326 ?_
        refine e_aload_n dX8_isGood_327 rfl ?_
        refine e_getf fX8_201 X.obj rfl dX8_isGood_328 ?_
        rw [v2]
        refine e_i2l ⟨by omega, by omega⟩ dX8_isGood_331 ?_
        refine e_aload_n dX8_isGood_332 rfl ?_
        refine e_getf fX8_204 X.obj rfl dX8_isGood_333 ?_
        rw [v3]
        refine e_i2l ⟨by omega, by omega⟩ dX8_isGood_336 ?_
        refine e_aload_n dX8_isGood_337 rfl ?_
        refine e_getf fX8_207 X.obj rfl dX8_isGood_338 ?_
        rw [v4]
        refine e_i2l ⟨by omega, by omega⟩ dX8_isGood_341 ?_
        refine e_aload_n dX8_isGood_342 rfl ?_
        refine e_getf fX8_216 X.obj rfl dX8_isGood_343 ?_
        rw [v7]
        refine e_i2l ⟨by omega, by omega⟩ dX8_isGood_346 ?_
        refine e_aload_n dX8_isGood_347 rfl ?_
        refine e_getf fX8_219 X.obj rfl dX8_isGood_348 ?_
        rw [v8]
        refine e_i2l ⟨by omega, by omega⟩ dX8_isGood_351 ?_
        refine e_pureS qcX8_169 (S_misOn w1 w2 w3 w4 ⟨by omega, by omega⟩ ⟨by omega, by omega⟩) rfl rfl rfl rfl dX8_isGood_352 ?_
        refine e_ifP_eq (tgt := 360) dX8_isGood_355 rfl (fun c_355 => ?_) (fun c_355 => ?_)
        · refine e_iload dX8_isGood_360 rfl ?_
          refine e_ifP_ne (tgt := 379) dX8_isGood_362 rfl (fun c_362 => ?_) (fun c_362 => ?_)
          · exact e_loc [(4, .int (iN (o : Nat))), (3, .int (iN (k : Nat))), (2, .int (iN (S g).length)), (0, .ref m), (1, .int (iN g))] ⟨rfl, rfl, rfl, rfl, rfl, trivial⟩ (kk _ _ X hA (fun w => w.elim hns (fun w => w.elim (fun w => (by first | exact c_204 w.1 | exact w.2.elim c_240 c_276)) (fun w => w.elim (fun w => (by first | exact c_283 w.1 | exact w.2.elim c_319 c_355)) (fun w => (by first | exact w.1 c_362 | exact w.2.1 c_367 | exact c_374 w.2.2))))))
          · refine e_iload dX8_isGood_365 rfl ?_
            refine e_ifP_ne (tgt := 379) dX8_isGood_367 rfl (fun c_367 => ?_) (fun c_367 => ?_)
            · exact e_loc [(4, .int (iN (o : Nat))), (3, .int (iN (k : Nat))), (2, .int (iN (S g).length)), (0, .ref m), (1, .int (iN g))] ⟨rfl, rfl, rfl, rfl, rfl, trivial⟩ (kk _ _ X hA (fun w => w.elim hns (fun w => w.elim (fun w => (by first | exact c_204 w.1 | exact w.2.elim c_240 c_276)) (fun w => w.elim (fun w => (by first | exact c_283 w.1 | exact w.2.elim c_319 c_355)) (fun w => (by first | exact w.1 c_362 | exact w.2.1 c_367 | exact c_374 w.2.2))))))
            · refine e_aload_n dX8_isGood_370 rfl ?_
              refine e_pureV qcX8_236 X.obj rfl rfl (S_doTouch X h8) rfl rfl rfl rfl dX8_isGood_371 ?_
              refine e_ifP_eq (tgt := 379) dX8_isGood_374 rfl (fun c_374 => ?_) (fun c_374 => ?_)
              · exact e_loc [(4, .int (iN (o : Nat))), (3, .int (iN (k : Nat))), (2, .int (iN (S g).length)), (0, .ref m), (1, .int (iN g))] ⟨rfl, rfl, rfl, rfl, rfl, trivial⟩ (kk _ _ X hA (fun w => w.elim hns (fun w => w.elim (fun w => (by first | exact c_204 w.1 | exact w.2.elim c_240 c_276)) (fun w => w.elim (fun w => (by first | exact c_283 w.1 | exact w.2.elim c_319 c_355)) (fun w => (by first | exact w.1 c_362 | exact w.2.1 c_367 | exact c_374 w.2.2))))))
              · have e5 : bdM (S g) k o := Or.inr (Or.inr (Or.inr ⟨c_362, c_367, c_374⟩))
                refine e_iconst dX8_isGood_377 ?_
                refine e_zret rfl (by first | exact Or.inl rfl | exact Or.inr rfl | exact bP_01 _) dX8_isGood_378 (by decide) (by decide) ?_
                exact ⟨_, rfl, rfl, by rw [hb e5], _, X, hA⟩
        · have e5 : bdM (S g) k o := Or.inr (Or.inr (Or.inl ⟨c_283, Or.inr c_355⟩))
          refine e_iconst dX8_isGood_358 ?_
          refine e_zret rfl (by first | exact Or.inl rfl | exact Or.inr rfl | exact bP_01 _) dX8_isGood_359 (by decide) (by decide) ?_
          exact ⟨_, rfl, rfl, by rw [hb e5], _, X, hA⟩
  · refine e_aload_n dX8_isGood_207 rfl ?_
    refine e_getf fX8_210 X.obj rfl dX8_isGood_208 ?_
    rw [v5]
    refine e_i2l ⟨by omega, by omega⟩ dX8_isGood_211 ?_
    refine e_aload_n dX8_isGood_212 rfl ?_
    refine e_getf fX8_213 X.obj rfl dX8_isGood_213 ?_
    rw [v6]
    refine e_i2l ⟨by omega, by omega⟩ dX8_isGood_216 ?_
    refine e_aload_n dX8_isGood_217 rfl ?_
    refine e_getf fX8_216 X.obj rfl dX8_isGood_218 ?_
    rw [v7]
    refine e_i2l ⟨by omega, by omega⟩ dX8_isGood_221 ?_
    refine e_aload_n dX8_isGood_222 rfl ?_
    refine e_getf fX8_219 X.obj rfl dX8_isGood_223 ?_
    rw [v8]
    refine e_i2l ⟨by omega, by omega⟩ dX8_isGood_226 ?_
    refine e_aload_n dX8_isGood_227 rfl ?_
    refine e_getf fX8_204 X.obj rfl dX8_isGood_228 ?_
    rw [v3]
    refine e_i2l ⟨by omega, by omega⟩ dX8_isGood_231 ?_
    refine e_aload_n dX8_isGood_232 rfl ?_
    refine e_getf fX8_207 X.obj rfl dX8_isGood_233 ?_
    rw [v4]
    refine e_i2l ⟨by omega, by omega⟩ dX8_isGood_236 ?_
    refine e_pureS qcX8_169 (S_misOn w5 w6 w7 w8 ⟨by omega, by omega⟩ ⟨by omega, by omega⟩) rfl rfl rfl rfl dX8_isGood_237 ?_
    refine e_ifP_ne (tgt := 279) dX8_isGood_240 rfl (fun c_240 => ?_) (fun c_240 => ?_)
    · have e5 : bdM (S g) k o := Or.inr (Or.inl ⟨c_204, Or.inl c_240⟩)
      refine e_iconst dX8_isGood_279 ?_
      refine e_zret rfl (by first | exact Or.inl rfl | exact Or.inr rfl | exact bP_01 _) dX8_isGood_280 (by decide) (by decide) ?_
      exact ⟨_, rfl, rfl, by rw [hb e5], _, X, hA⟩
    · refine e_aload_n dX8_isGood_243 rfl ?_
      refine e_getf fX8_198 X.obj rfl dX8_isGood_244 ?_
      rw [v1]
      refine e_i2l ⟨by omega, by omega⟩ dX8_isGood_247 ?_
      refine e_aload_n dX8_isGood_248 rfl ?_
      refine e_getf fX8_201 X.obj rfl dX8_isGood_249 ?_
      rw [v2]
      refine e_i2l ⟨by omega, by omega⟩ dX8_isGood_252 ?_
      refine e_aload_n dX8_isGood_253 rfl ?_
      refine e_getf fX8_204 X.obj rfl dX8_isGood_254 ?_
      rw [v3]
      refine e_i2l ⟨by omega, by omega⟩ dX8_isGood_257 ?_
      refine e_aload_n dX8_isGood_258 rfl ?_
      refine e_getf fX8_207 X.obj rfl dX8_isGood_259 ?_
      rw [v4]
      refine e_i2l ⟨by omega, by omega⟩ dX8_isGood_262 ?_
      refine e_aload_n dX8_isGood_263 rfl ?_
      refine e_getf fX8_210 X.obj rfl dX8_isGood_264 ?_
      rw [v5]
      refine e_i2l ⟨by omega, by omega⟩ dX8_isGood_267 ?_
      refine e_aload_n dX8_isGood_268 rfl ?_
      refine e_getf fX8_213 X.obj rfl dX8_isGood_269 ?_
      rw [v6]
      refine e_i2l ⟨by omega, by omega⟩ dX8_isGood_272 ?_
      refine e_pureS qcX8_169 (S_misOn w1 w2 w3 w4 ⟨by omega, by omega⟩ ⟨by omega, by omega⟩) rfl rfl rfl rfl dX8_isGood_273 ?_
      refine e_ifP_eq (tgt := 281) dX8_isGood_276 rfl (fun c_276 => ?_) (fun c_276 => ?_)
      · refine e_iload dX8_isGood_281 rfl ?_
        refine e_ifP_eq (tgt := 360) dX8_isGood_283 rfl (fun c_283 => ?_) (fun c_283 => ?_)
        · refine e_iload dX8_isGood_360 rfl ?_
          refine e_ifP_ne (tgt := 379) dX8_isGood_362 rfl (fun c_362 => ?_) (fun c_362 => ?_)
          · exact e_loc [(4, .int (iN (o : Nat))), (3, .int (iN (k : Nat))), (2, .int (iN (S g).length)), (0, .ref m), (1, .int (iN g))] ⟨rfl, rfl, rfl, rfl, rfl, trivial⟩ (kk _ _ X hA (fun w => w.elim hns (fun w => w.elim (fun w => (by first | exact c_204 w.1 | exact w.2.elim c_240 c_276)) (fun w => w.elim (fun w => (by first | exact c_283 w.1 | exact w.2.elim c_319 c_355)) (fun w => (by first | exact w.1 c_362 | exact w.2.1 c_367 | exact c_374 w.2.2))))))
          · refine e_iload dX8_isGood_365 rfl ?_
            refine e_ifP_ne (tgt := 379) dX8_isGood_367 rfl (fun c_367 => ?_) (fun c_367 => ?_)
            · exact e_loc [(4, .int (iN (o : Nat))), (3, .int (iN (k : Nat))), (2, .int (iN (S g).length)), (0, .ref m), (1, .int (iN g))] ⟨rfl, rfl, rfl, rfl, rfl, trivial⟩ (kk _ _ X hA (fun w => w.elim hns (fun w => w.elim (fun w => (by first | exact c_204 w.1 | exact w.2.elim c_240 c_276)) (fun w => w.elim (fun w => (by first | exact c_283 w.1 | exact w.2.elim c_319 c_355)) (fun w => (by first | exact w.1 c_362 | exact w.2.1 c_367 | exact c_374 w.2.2))))))
            · refine e_aload_n dX8_isGood_370 rfl ?_
              refine e_pureV qcX8_236 X.obj rfl rfl (S_doTouch X h8) rfl rfl rfl rfl dX8_isGood_371 ?_
              refine e_ifP_eq (tgt := 379) dX8_isGood_374 rfl (fun c_374 => ?_) (fun c_374 => ?_)
              · exact e_loc [(4, .int (iN (o : Nat))), (3, .int (iN (k : Nat))), (2, .int (iN (S g).length)), (0, .ref m), (1, .int (iN g))] ⟨rfl, rfl, rfl, rfl, rfl, trivial⟩ (kk _ _ X hA (fun w => w.elim hns (fun w => w.elim (fun w => (by first | exact c_204 w.1 | exact w.2.elim c_240 c_276)) (fun w => w.elim (fun w => (by first | exact c_283 w.1 | exact w.2.elim c_319 c_355)) (fun w => (by first | exact w.1 c_362 | exact w.2.1 c_367 | exact c_374 w.2.2))))))
              · have e5 : bdM (S g) k o := Or.inr (Or.inr (Or.inr ⟨c_362, c_367, c_374⟩))
                refine e_iconst dX8_isGood_377 ?_
                refine e_zret rfl (by first | exact Or.inl rfl | exact Or.inr rfl | exact bP_01 _) dX8_isGood_378 (by decide) (by decide) ?_
                exact ⟨_, rfl, rfl, by rw [hb e5], _, X, hA⟩
        · refine e_aload_n dX8_isGood_286 rfl ?_
          refine e_getf fX8_210 X.obj rfl dX8_isGood_287 ?_
          rw [v5]
          refine e_i2l ⟨by omega, by omega⟩ dX8_isGood_290 ?_
          refine e_aload_n dX8_isGood_291 rfl ?_
          refine e_getf fX8_213 X.obj rfl dX8_isGood_292 ?_
          rw [v6]
          refine e_i2l ⟨by omega, by omega⟩ dX8_isGood_295 ?_
          refine e_aload_n dX8_isGood_296 rfl ?_
          refine e_getf fX8_216 X.obj rfl dX8_isGood_297 ?_
          rw [v7]
          refine e_i2l ⟨by omega, by omega⟩ dX8_isGood_300 ?_
          refine e_aload_n dX8_isGood_301 rfl ?_
          refine e_getf fX8_219 X.obj rfl dX8_isGood_302 ?_
          rw [v8]
          refine e_i2l ⟨by omega, by omega⟩ dX8_isGood_305 ?_
          refine e_aload_n dX8_isGood_306 rfl ?_
          refine e_getf fX8_198 X.obj rfl dX8_isGood_307 ?_
          rw [v1]
          refine e_i2l ⟨by omega, by omega⟩ dX8_isGood_310 ?_
          refine e_aload_n dX8_isGood_311 rfl ?_
          refine e_getf fX8_201 X.obj rfl dX8_isGood_312 ?_
          rw [v2]
          refine e_i2l ⟨by omega, by omega⟩ dX8_isGood_315 ?_
          refine e_pureS qcX8_169 (S_misOn w5 w6 w7 w8 ⟨by omega, by omega⟩ ⟨by omega, by omega⟩) rfl rfl rfl rfl dX8_isGood_316 ?_
          refine e_ifP_ne (tgt := 358) dX8_isGood_319 rfl (fun c_319 => ?_) (fun c_319 => ?_)
          · have e5 : bdM (S g) k o := Or.inr (Or.inr (Or.inl ⟨c_283, Or.inl c_319⟩))
            refine e_iconst dX8_isGood_358 ?_
            refine e_zret rfl (by first | exact Or.inl rfl | exact Or.inr rfl | exact bP_01 _) dX8_isGood_359 (by decide) (by decide) ?_
            exact ⟨_, rfl, rfl, by rw [hb e5], _, X, hA⟩
          · refine e_aload_n dX8_isGood_322 rfl ?_
            refine e_getf fX8_198 X.obj rfl dX8_isGood_323 ?_
            rw [v1]
            refine e_i2l ⟨by omega, by omega⟩ dX8_isGood_326 ?_
            refine e_aload_n dX8_isGood_327 rfl ?_
            refine e_getf fX8_201 X.obj rfl dX8_isGood_328 ?_
            rw [v2]
            refine e_i2l ⟨by omega, by omega⟩ dX8_isGood_331 ?_
            refine e_aload_n dX8_isGood_332 rfl ?_
            refine e_getf fX8_204 X.obj rfl dX8_isGood_333 ?_
            rw [v3]
            refine e_i2l ⟨by omega, by omega⟩ dX8_isGood_336 ?_
            refine e_aload_n dX8_isGood_337 rfl ?_
            refine e_getf fX8_207 X.obj rfl dX8_isGood_338 ?_
            rw [v4]
            refine e_i2l ⟨by omega, by omega⟩ dX8_isGood_341 ?_
            refine e_aload_n dX8_isGood_342 rfl ?_
            refine e_getf fX8_216 X.obj rfl dX8_isGood_343 ?_
            rw [v7]
            refine e_i2l ⟨by omega, by omega⟩ dX8_isGood_346 ?_
            refine e_aload_n dX8_isGood_347 rfl ?_
            refine e_getf fX8_219 X.obj rfl dX8_isGood_348 ?_
            rw [v8]
            refine e_i2l ⟨by omega, by omega⟩ dX8_isGood_351 ?_
            refine e_pureS qcX8_169 (S_misOn w1 w2 w3 w4 ⟨by omega, by omega⟩ ⟨by omega, by omega⟩) rfl rfl rfl rfl dX8_isGood_352 ?_
            refine e_ifP_eq (tgt := 360) dX8_isGood_355 rfl (fun c_355 => ?_) (fun c_355 => ?_)
            · refine e_iload dX8_isGood_360 rfl ?_
              refine e_ifP_ne (tgt := 379) dX8_isGood_362 rfl (fun c_362 => ?_) (fun c_362 => ?_)
              · exact e_loc [(4, .int (iN (o : Nat))), (3, .int (iN (k : Nat))), (2, .int (iN (S g).length)), (0, .ref m), (1, .int (iN g))] ⟨rfl, rfl, rfl, rfl, rfl, trivial⟩ (kk _ _ X hA (fun w => w.elim hns (fun w => w.elim (fun w => (by first | exact c_204 w.1 | exact w.2.elim c_240 c_276)) (fun w => w.elim (fun w => (by first | exact c_283 w.1 | exact w.2.elim c_319 c_355)) (fun w => (by first | exact w.1 c_362 | exact w.2.1 c_367 | exact c_374 w.2.2))))))
              · refine e_iload dX8_isGood_365 rfl ?_
                refine e_ifP_ne (tgt := 379) dX8_isGood_367 rfl (fun c_367 => ?_) (fun c_367 => ?_)
                · exact e_loc [(4, .int (iN (o : Nat))), (3, .int (iN (k : Nat))), (2, .int (iN (S g).length)), (0, .ref m), (1, .int (iN g))] ⟨rfl, rfl, rfl, rfl, rfl, trivial⟩ (kk _ _ X hA (fun w => w.elim hns (fun w => w.elim (fun w => (by first | exact c_204 w.1 | exact w.2.elim c_240 c_276)) (fun w => w.elim (fun w => (by first | exact c_283 w.1 | exact w.2.elim c_319 c_355)) (fun w => (by first | exact w.1 c_362 | exact w.2.1 c_367 | exact c_374 w.2.2))))))
                · refine e_aload_n dX8_isGood_370 rfl ?_
                  refine e_pureV qcX8_236 X.obj rfl rfl (S_doTouch X h8) rfl rfl rfl rfl dX8_isGood_371 ?_
                  refine e_ifP_eq (tgt := 379) dX8_isGood_374 rfl (fun c_374 => ?_) (fun c_374 => ?_)
                  · exact e_loc [(4, .int (iN (o : Nat))), (3, .int (iN (k : Nat))), (2, .int (iN (S g).length)), (0, .ref m), (1, .int (iN g))] ⟨rfl, rfl, rfl, rfl, rfl, trivial⟩ (kk _ _ X hA (fun w => w.elim hns (fun w => w.elim (fun w => (by first | exact c_204 w.1 | exact w.2.elim c_240 c_276)) (fun w => w.elim (fun w => (by first | exact c_283 w.1 | exact w.2.elim c_319 c_355)) (fun w => (by first | exact w.1 c_362 | exact w.2.1 c_367 | exact c_374 w.2.2))))))
                  · have e5 : bdM (S g) k o := Or.inr (Or.inr (Or.inr ⟨c_362, c_367, c_374⟩))
                    refine e_iconst dX8_isGood_377 ?_
                    refine e_zret rfl (by first | exact Or.inl rfl | exact Or.inr rfl | exact bP_01 _) dX8_isGood_378 (by decide) (by decide) ?_
                    exact ⟨_, rfl, rfl, by rw [hb e5], _, X, hA⟩
            · have e5 : bdM (S g) k o := Or.inr (Or.inr (Or.inl ⟨c_283, Or.inr c_355⟩))
              refine e_iconst dX8_isGood_358 ?_
              refine e_zret rfl (by first | exact Or.inl rfl | exact Or.inr rfl | exact bP_01 _) dX8_isGood_359 (by decide) (by decide) ?_
              exact ⟨_, rfl, rfl, by rw [hb e5], _, X, hA⟩
      · have e5 : bdM (S g) k o := Or.inr (Or.inl ⟨c_204, Or.inr c_276⟩)
        refine e_iconst dX8_isGood_279 ?_
        refine e_zret rfl (by first | exact Or.inl rfl | exact Or.inr rfl | exact bP_01 _) dX8_isGood_280 (by decide) (by decide) ?_
        exact ⟨_, rfl, rfl, by rw [hb e5], _, X, hA⟩
set_option maxRecDepth 20000 in
theorem gd_a {z : Option Nat} {g k o : Nat} (hS : mdS ar S) (hg : g < 4) (hk : k < (S g).length) (ho : o < k) (kk : ∀ sc1 h, mdX G sc1 ar m h0 h → agr [17, 18, 19, 20, 21, 22, 23, 24] [] sc ar sc1 ar → ¬ bdM (S g) k o → Ev (g_B G mX8_isGood 0 0 (fun o1 z1 h1 => ∃ v, o1 = .inl v ∧ z1 = z ∧ (fun v h1 => v = some (.int (iN (bC (gdM (S g))))) ∧ ∃ sc2, mdX G sc2 ar m h0 h1 ∧ agr [17, 18, 19, 20, 21, 22, 23, 24] [] sc ar sc2 ar) v h1)) 0 0 z h 379 [(4, .int (iN (o : Nat))), (3, .int (iN (k : Nat))), (2, .int (iN (S g).length)), (0, .ref m), (1, .int (iN g))] []) (hb : bdM (S g) k o → bC (gdM (S g)) = 0) (hns : ¬ (pX (S g) k = pX (S g) o ∧ pY (S g) k = pY (S g) o)) {sc1 : Nat → Int} (X : mdX G sc1 ar m h0 h) (hA : agr [17, 18, 19, 20, 21, 22, 23, 24] [] sc ar sc1 ar) : Ev (g_B G mX8_isGood 0 0 (fun o1 z1 h1 => ∃ v, o1 = .inl v ∧ z1 = z ∧ (fun v h1 => v = some (.int (iN (bC (gdM (S g))))) ∧ ∃ sc2, mdX G sc2 ar m h0 h1 ∧ agr [17, 18, 19, 20, 21, 22, 23, 24] [] sc ar sc2 ar) v h1)) 0 0 z h 104 [(8, .int (iN (16 * (g : Int) + ((nxt (S g).length o : Nat) : Int)))), (7, .int (iN (16 * (g : Int) + (o : Int)))), (6, .int (iN (16 * (g : Int) + ((nxt (S g).length k : Nat) : Int)))), (5, .int (iN (16 * (g : Int) + (k : Int)))), (4, .int (iN (o : Nat))), (3, .int (iN (k : Nat))), (2, .int (iN (S g).length)), (0, .ref m), (1, .int (iN g))] [] := by
  obtain ⟨s1, s2, s3, s4⟩ := hS g hg
  have ho2 : o < (S g).length := by omega
  have hk3 := nxt_lt hk
  have ho3 := nxt_lt ho2
  have b1 := s3.at hk
  have b2 := s3.at hk3
  have b3 := s3.at ho2
  have b4 := s3.at ho3
  refine e_aload_n dX8_isGood_104 rfl ?_
  refine e_aload_n dX8_isGood_105 rfl ?_
  refine e_getf fX8_42 X.obj rfl dX8_isGood_106 ?_
  refine e_iload dX8_isGood_109 rfl ?_
  refine e_ial X.a9 (by omega) (by omega) rfl ((congrArg _ (show (16 * ((g : Nat) : Int) + ((k : Nat) : Int)).toNat = 16 * g + k by omega)).trans (s4 k hk).1) dX8_isGood_111 ?_
  refine e_aload_n dX8_isGood_112 rfl ?_
  refine e_getf fX8_45 X.obj rfl dX8_isGood_113 ?_
  refine e_iload dX8_isGood_116 rfl ?_
  refine e_ial X.a10 (by omega) (by omega) rfl ((congrArg _ (show (16 * ((g : Nat) : Int) + ((k : Nat) : Int)).toNat = 16 * g + k by omega)).trans (s4 k hk).2) dX8_isGood_118 ?_
  refine e_aload_n dX8_isGood_119 rfl ?_
  refine e_getf fX8_42 X.obj rfl dX8_isGood_120 ?_
  refine e_iload dX8_isGood_123 rfl ?_
  refine e_ial X.a9 (by omega) (by omega) rfl ((congrArg _ (show (16 * ((g : Nat) : Int) + (((nxt (S g).length k) : Nat) : Int)).toNat = 16 * g + (nxt (S g).length k) by omega)).trans (s4 (nxt (S g).length k) hk3).1) dX8_isGood_125 ?_
  refine e_aload_n dX8_isGood_126 rfl ?_
  refine e_getf fX8_45 X.obj rfl dX8_isGood_127 ?_
  refine e_iload dX8_isGood_130 rfl ?_
  refine e_ial X.a10 (by omega) (by omega) rfl ((congrArg _ (show (16 * ((g : Nat) : Int) + (((nxt (S g).length k) : Nat) : Int)).toNat = 16 * g + (nxt (S g).length k) by omega)).trans (s4 (nxt (S g).length k) hk3).2) dX8_isGood_132 ?_
  refine e_doesV qcX8_229 X.obj rfl rfl (S_takesFirst X) rfl rfl rfl rfl dX8_isGood_133 ?_
  intro v h9 q9
  obtain ⟨rfl, X⟩ := q9
  refine e_aload_n dX8_isGood_136 rfl ?_
  refine e_aload_n dX8_isGood_137 rfl ?_
  refine e_getf fX8_42 X.obj rfl dX8_isGood_138 ?_
  refine e_iload dX8_isGood_141 rfl ?_
  refine e_ial X.a9 (by omega) (by omega) rfl ((congrArg _ (show (16 * ((g : Nat) : Int) + ((o : Nat) : Int)).toNat = 16 * g + o by omega)).trans (s4 o ho2).1) dX8_isGood_143 ?_
  refine e_aload_n dX8_isGood_144 rfl ?_
  refine e_getf fX8_45 X.obj rfl dX8_isGood_145 ?_
  refine e_iload dX8_isGood_148 rfl ?_
  refine e_ial X.a10 (by omega) (by omega) rfl ((congrArg _ (show (16 * ((g : Nat) : Int) + ((o : Nat) : Int)).toNat = 16 * g + o by omega)).trans (s4 o ho2).2) dX8_isGood_150 ?_
  refine e_aload_n dX8_isGood_151 rfl ?_
  refine e_getf fX8_42 X.obj rfl dX8_isGood_152 ?_
  refine e_iload dX8_isGood_155 rfl ?_
  refine e_ial X.a9 (by omega) (by omega) rfl ((congrArg _ (show (16 * ((g : Nat) : Int) + (((nxt (S g).length o) : Nat) : Int)).toNat = 16 * g + (nxt (S g).length o) by omega)).trans (s4 (nxt (S g).length o) ho3).1) dX8_isGood_157 ?_
  refine e_aload_n dX8_isGood_158 rfl ?_
  refine e_getf fX8_45 X.obj rfl dX8_isGood_159 ?_
  refine e_iload dX8_isGood_162 rfl ?_
  refine e_ial X.a10 (by omega) (by omega) rfl ((congrArg _ (show (16 * ((g : Nat) : Int) + (((nxt (S g).length o) : Nat) : Int)).toNat = 16 * g + (nxt (S g).length o) by omega)).trans (s4 (nxt (S g).length o) ho3).2) dX8_isGood_164 ?_
  refine e_doesV qcX8_233 X.obj rfl rfl (S_takesSecond X) rfl rfl rfl rfl dX8_isGood_165 ?_
  intro v h9 q9
  obtain ⟨rfl, X⟩ := q9
  have h8 : st8 (uI (uI (uI (uI (uI (uI (uI (uI sc1 17 (pX (S g) k)) 18 (pY (S g) k)) 19 (nX (S g) k)) 20 (nY (S g) k)) 21 (pX (S g) o)) 22 (pY (S g) o)) 23 (nX (S g) o)) 24 (nY (S g) o)) (pX (S g) k) (pY (S g) k) (nX (S g) k) (nY (S g) k) (pX (S g) o) (pY (S g) o) (nX (S g) o) (nY (S g) o) := ⟨⟨rfl, rfl, rfl, rfl, rfl, rfl, rfl, rfl⟩, ⟨⟨by omega, by omega⟩, ⟨by omega, by omega⟩, ⟨by show _ ≤ pX _ _; omega, by show pX _ _ ≤ _; omega⟩, by show _ ≤ pY _ _; omega, by show pY _ _ ≤ _; omega⟩, ⟨by omega, by omega⟩, ⟨by omega, by omega⟩, ⟨by show _ ≤ pX _ _; omega, by show pX _ _ ≤ _; omega⟩, by show _ ≤ pY _ _; omega, by show pY _ _ ≤ _; omega⟩
  have hA2 := (((((((hA.pk (k := 17) (v := pX (S g) k) (by decide)).pk (k := 18) (v := pY (S g) k) (by decide)).pk (k := 19) (v := nX (S g) k) (by decide)).pk (k := 20) (v := nY (S g) k) (by decide)).pk (k := 21) (v := pX (S g) o) (by decide)).pk (k := 22) (v := pY (S g) o) (by decide)).pk (k := 23) (v := nX (S g) o) (by decide)).pk (k := 24) (v := nY (S g) o) (by decide)
  refine e_iload_n dX8_isGood_168 rfl ?_
  refine e_iload dX8_isGood_169 rfl ?_
  refine e_iconst dX8_isGood_171 ?_
  refine e_iadd dX8_isGood_172 ?_
  refine e_icmp_ne (tgt := 180) ⟨by omega, by omega⟩ ⟨by omega, by omega⟩ dX8_isGood_173 rfl (fun c_173 => ?_) (fun c_173 => ?_)
  · refine e_iconst dX8_isGood_180 ?_
    refine e_top (bP (k = o + 1)) (bP_f (show ¬ k = o + 1 by omega)).symm ?_
    refine e_istore dX8_isGood_181 rfl ?_
    refine e_iload dX8_isGood_183 rfl ?_
    refine e_if_ne (tgt := 199) ⟨by omega, by omega⟩ dX8_isGood_185 rfl (fun c_185 => ?_) (fun c_185 => ?_)
    · refine e_iconst dX8_isGood_199 ?_
      refine e_top (bP (o = 0 ∧ k = (S g).length - 1)) (bP_f (show ¬ (o = 0 ∧ k = (S g).length - 1) by omega)).symm ?_
      refine e_istore dX8_isGood_200 rfl ?_
      exact e_loc [(10, .int (iN (bP (o = 0 ∧ k = (S g).length - 1)))), (9, .int (iN (bP (k = o + 1)))), (4, .int (iN (o : Nat))), (3, .int (iN (k : Nat))), (2, .int (iN (S g).length)), (0, .ref m), (1, .int (iN g))] ⟨rfl, rfl, rfl, rfl, rfl, rfl, rfl, trivial⟩ (gd_c kk hb hns X hA2 h8)
    · refine e_iload_n dX8_isGood_188 rfl ?_
      refine e_iload_n dX8_isGood_189 rfl ?_
      refine e_iconst dX8_isGood_190 ?_
      refine e_isub dX8_isGood_191 ?_
      refine e_icmp_ne (tgt := 199) ⟨by omega, by omega⟩ ⟨by omega, by omega⟩ dX8_isGood_192 rfl (fun c_192 => ?_) (fun c_192 => ?_)
      · refine e_iconst dX8_isGood_199 ?_
        refine e_top (bP (o = 0 ∧ k = (S g).length - 1)) (bP_f (show ¬ (o = 0 ∧ k = (S g).length - 1) by omega)).symm ?_
        refine e_istore dX8_isGood_200 rfl ?_
        exact e_loc [(10, .int (iN (bP (o = 0 ∧ k = (S g).length - 1)))), (9, .int (iN (bP (k = o + 1)))), (4, .int (iN (o : Nat))), (3, .int (iN (k : Nat))), (2, .int (iN (S g).length)), (0, .ref m), (1, .int (iN g))] ⟨rfl, rfl, rfl, rfl, rfl, rfl, rfl, trivial⟩ (gd_c kk hb hns X hA2 h8)
      · refine e_iconst dX8_isGood_195 ?_
        refine e_top (bP (o = 0 ∧ k = (S g).length - 1)) (bP_t (show (o = 0 ∧ k = (S g).length - 1) by omega)).symm ?_
        refine e_goto (tgt := 200) dX8_isGood_196 rfl ?_
        refine e_istore dX8_isGood_200 rfl ?_
        exact e_loc [(10, .int (iN (bP (o = 0 ∧ k = (S g).length - 1)))), (9, .int (iN (bP (k = o + 1)))), (4, .int (iN (o : Nat))), (3, .int (iN (k : Nat))), (2, .int (iN (S g).length)), (0, .ref m), (1, .int (iN g))] ⟨rfl, rfl, rfl, rfl, rfl, rfl, rfl, trivial⟩ (gd_c kk hb hns X hA2 h8)
  · refine e_iconst dX8_isGood_176 ?_
    refine e_top (bP (k = o + 1)) (bP_t (show k = o + 1 by omega)).symm ?_
    refine e_goto (tgt := 181) dX8_isGood_177 rfl ?_
    refine e_istore dX8_isGood_181 rfl ?_
    refine e_iload dX8_isGood_183 rfl ?_
    refine e_if_ne (tgt := 199) ⟨by omega, by omega⟩ dX8_isGood_185 rfl (fun c_185 => ?_) (fun c_185 => ?_)
    · refine e_iconst dX8_isGood_199 ?_
      refine e_top (bP (o = 0 ∧ k = (S g).length - 1)) (bP_f (show ¬ (o = 0 ∧ k = (S g).length - 1) by omega)).symm ?_
      refine e_istore dX8_isGood_200 rfl ?_
      exact e_loc [(10, .int (iN (bP (o = 0 ∧ k = (S g).length - 1)))), (9, .int (iN (bP (k = o + 1)))), (4, .int (iN (o : Nat))), (3, .int (iN (k : Nat))), (2, .int (iN (S g).length)), (0, .ref m), (1, .int (iN g))] ⟨rfl, rfl, rfl, rfl, rfl, rfl, rfl, trivial⟩ (gd_c kk hb hns X hA2 h8)
    · refine e_iload_n dX8_isGood_188 rfl ?_
      refine e_iload_n dX8_isGood_189 rfl ?_
      refine e_iconst dX8_isGood_190 ?_
      refine e_isub dX8_isGood_191 ?_
      refine e_icmp_ne (tgt := 199) ⟨by omega, by omega⟩ ⟨by omega, by omega⟩ dX8_isGood_192 rfl (fun c_192 => ?_) (fun c_192 => ?_)
      · refine e_iconst dX8_isGood_199 ?_
        refine e_top (bP (o = 0 ∧ k = (S g).length - 1)) (bP_f (show ¬ (o = 0 ∧ k = (S g).length - 1) by omega)).symm ?_
        refine e_istore dX8_isGood_200 rfl ?_
        exact e_loc [(10, .int (iN (bP (o = 0 ∧ k = (S g).length - 1)))), (9, .int (iN (bP (k = o + 1)))), (4, .int (iN (o : Nat))), (3, .int (iN (k : Nat))), (2, .int (iN (S g).length)), (0, .ref m), (1, .int (iN g))] ⟨rfl, rfl, rfl, rfl, rfl, rfl, rfl, trivial⟩ (gd_c kk hb hns X hA2 h8)
      · refine e_iconst dX8_isGood_195 ?_
        refine e_top (bP (o = 0 ∧ k = (S g).length - 1)) (bP_t (show (o = 0 ∧ k = (S g).length - 1) by omega)).symm ?_
        refine e_goto (tgt := 200) dX8_isGood_196 rfl ?_
        refine e_istore dX8_isGood_200 rfl ?_
        exact e_loc [(10, .int (iN (bP (o = 0 ∧ k = (S g).length - 1)))), (9, .int (iN (bP (k = o + 1)))), (4, .int (iN (o : Nat))), (3, .int (iN (k : Nat))), (2, .int (iN (S g).length)), (0, .ref m), (1, .int (iN g))] ⟨rfl, rfl, rfl, rfl, rfl, rfl, rfl, trivial⟩ (gd_c kk hb hns X hA2 h8)
set_option maxRecDepth 20000 in
theorem gd_inner {z : Option Nat} {g k : Nat} (hS : mdS ar S) (hg : g < 4) (hk : k < (S g).length) (kk : ∀ sc1 h, mdX G sc1 ar m h0 h → agr [17, 18, 19, 20, 21, 22, 23, 24] [] sc ar sc1 ar → (∀ o, o < k → ¬ bdM (S g) k o) → Ev (g_B G mX8_isGood 0 0 (fun o1 z1 h1 => ∃ v, o1 = .inl v ∧ z1 = z ∧ (fun v h1 => v = some (.int (iN (bC (gdM (S g))))) ∧ ∃ sc2, mdX G sc2 ar m h0 h1 ∧ agr [17, 18, 19, 20, 21, 22, 23, 24] [] sc ar sc2 ar) v h1)) 0 0 z h 385 [(3, .int (iN (k : Nat))), (2, .int (iN (S g).length)), (0, .ref m), (1, .int (iN g))] []) : ∀ (n o : Nat) (sc1 : Nat → Int) (h : g_hp), mdX G sc1 ar m h0 h → agr [17, 18, 19, 20, 21, 22, 23, 24] [] sc ar sc1 ar → (∀ q, q < o → ¬ bdM (S g) k q) → o + n = k → Ev (g_B G mX8_isGood 0 0 (fun o1 z1 h1 => ∃ v, o1 = .inl v ∧ z1 = z ∧ (fun v h1 => v = some (.int (iN (bC (gdM (S g))))) ∧ ∃ sc2, mdX G sc2 ar m h0 h1 ∧ agr [17, 18, 19, 20, 21, 22, 23, 24] [] sc ar sc2 ar) v h1)) 0 0 z h 24 [(4, .int (iN (o : Nat))), (3, .int (iN (k : Nat))), (2, .int (iN (S g).length)), (0, .ref m), (1, .int (iN g))] [] := by
  have hS9 := hS
  obtain ⟨s1, s2, s3, s4⟩ := hS g hg
  intro n
  induction n with
  | zero =>
    intro o sc1 h X hA hN hon
    have e9 : o = k := by omega
    refine e_iload dX8_isGood_24 rfl ?_
    refine e_iload_n dX8_isGood_26 rfl ?_
    refine e_icmp_ge (tgt := 385) ⟨by omega, by omega⟩ ⟨by omega, by omega⟩ dX8_isGood_27 rfl (fun c_27 => ?_) (fun c_27 => absurd (by omega) c_27)
    exact e_loc [(3, .int (iN (k : Nat))), (2, .int (iN (S g).length)), (0, .ref m), (1, .int (iN g))] ⟨rfl, rfl, rfl, rfl, trivial⟩ (kk _ _ X hA (fun q hq => hN q (by omega)))
  | succ n ih =>
    intro o sc1 h X hA hN hon
    have ho : o < k := by omega
    have ho2 : o < (S g).length := by omega
    have hk3 := nxt_lt hk
    have ho3 := nxt_lt ho2
    have b1 := s3.at hk
    have b3 := s3.at ho2
    have hb : bdM (S g) k o → bC (gdM (S g)) = 0 := fun w => bC_f (fun v => v.2 k hk o ho w)
    refine e_iload dX8_isGood_24 rfl ?_
    refine e_iload_n dX8_isGood_26 rfl ?_
    refine e_icmp_ge (tgt := 385) ⟨by omega, by omega⟩ ⟨by omega, by omega⟩ dX8_isGood_27 rfl (fun c_27 => absurd c_27 (by omega)) (fun c_27 => ?_)
    refine e_aload_n dX8_isGood_30 rfl ?_
    refine e_iload_n dX8_isGood_31 rfl ?_
    refine e_iload_n dX8_isGood_32 rfl ?_
    refine e_pureV qcX8_226 X.obj rfl rfl (S_corner0 X hS9 hg hk) rfl rfl rfl rfl dX8_isGood_33 ?_
    refine e_istore dX8_isGood_36 rfl ?_
    refine e_aload_n dX8_isGood_38 rfl ?_
    refine e_iload_n dX8_isGood_39 rfl ?_
    refine e_iload_n dX8_isGood_40 rfl ?_
    refine e_iconst dX8_isGood_41 ?_
    refine e_iadd dX8_isGood_42 ?_
    refine e_pureV qcX8_226 X.obj rfl rfl (S_corner1 X hS9 hg hk) rfl rfl rfl rfl dX8_isGood_43 ?_
    refine e_istore dX8_isGood_46 rfl ?_
    refine e_aload_n dX8_isGood_48 rfl ?_
    refine e_iload_n dX8_isGood_49 rfl ?_
    refine e_iload dX8_isGood_50 rfl ?_
    refine e_pureV qcX8_226 X.obj rfl rfl (S_corner0 X hS9 hg ho2) rfl rfl rfl rfl dX8_isGood_52 ?_
    refine e_istore dX8_isGood_55 rfl ?_
    refine e_aload_n dX8_isGood_57 rfl ?_
    refine e_iload_n dX8_isGood_58 rfl ?_
    refine e_iload dX8_isGood_59 rfl ?_
    refine e_iconst dX8_isGood_61 ?_
    refine e_iadd dX8_isGood_62 ?_
    refine e_pureV qcX8_226 X.obj rfl rfl (S_corner1 X hS9 hg ho2) rfl rfl rfl rfl dX8_isGood_63 ?_
    refine e_istore dX8_isGood_66 rfl ?_
    refine e_aload_n dX8_isGood_68 rfl ?_
    refine e_getf fX8_42 X.obj rfl dX8_isGood_69 ?_
    refine e_iload dX8_isGood_72 rfl ?_
    refine e_ial X.a9 (by omega) (by omega) rfl ((congrArg _ (show (16 * ((g : Nat) : Int) + ((k : Nat) : Int)).toNat = 16 * g + k by omega)).trans (s4 k hk).1) dX8_isGood_74 ?_
    refine e_aload_n dX8_isGood_75 rfl ?_
    refine e_getf fX8_42 X.obj rfl dX8_isGood_76 ?_
    refine e_iload dX8_isGood_79 rfl ?_
    refine e_ial X.a9 (by omega) (by omega) rfl ((congrArg _ (show (16 * ((g : Nat) : Int) + ((o : Nat) : Int)).toNat = 16 * g + o by omega)).trans (s4 o ho2).1) dX8_isGood_81 ?_
    refine e_icmp_ne (tgt := 104) ⟨by omega, by omega⟩ ⟨by omega, by omega⟩ dX8_isGood_82 rfl (fun c_82 => ?_) (fun c_82 => ?_)
    · exact e_loc [(8, .int (iN (16 * (g : Int) + ((nxt (S g).length o : Nat) : Int)))), (7, .int (iN (16 * (g : Int) + (o : Int)))), (6, .int (iN (16 * (g : Int) + ((nxt (S g).length k : Nat) : Int)))), (5, .int (iN (16 * (g : Int) + (k : Int)))), (4, .int (iN (o : Nat))), (3, .int (iN (k : Nat))), (2, .int (iN (S g).length)), (0, .ref m), (1, .int (iN g))] ⟨rfl, rfl, rfl, rfl, rfl, rfl, rfl, rfl, rfl, trivial⟩ (gd_a hS9 hg hk ho (fun sc1 h X hA hB => by
        refine e_iinc dX8_isGood_379 rfl ?_
        refine e_goto (tgt := 24) dX8_isGood_382 rfl ?_
        exact e_loc [(4, .int (iN (o + 1 : Nat))), (3, .int (iN (k : Nat))), (2, .int (iN (S g).length)), (0, .ref m), (1, .int (iN g))] ⟨rfl, rfl, rfl, rfl, rfl, trivial⟩ (ih (o + 1) _ _ X hA (fun q hq => if c : q < o then hN q c else by rw [show q = o by omega]; exact hB) (by omega))) hb (by omega) X hA)
    · refine e_aload_n dX8_isGood_85 rfl ?_
      refine e_getf fX8_45 X.obj rfl dX8_isGood_86 ?_
      refine e_iload dX8_isGood_89 rfl ?_
      refine e_ial X.a10 (by omega) (by omega) rfl ((congrArg _ (show (16 * ((g : Nat) : Int) + ((k : Nat) : Int)).toNat = 16 * g + k by omega)).trans (s4 k hk).2) dX8_isGood_91 ?_
      refine e_aload_n dX8_isGood_92 rfl ?_
      refine e_getf fX8_45 X.obj rfl dX8_isGood_93 ?_
      refine e_iload dX8_isGood_96 rfl ?_
      refine e_ial X.a10 (by omega) (by omega) rfl ((congrArg _ (show (16 * ((g : Nat) : Int) + ((o : Nat) : Int)).toNat = 16 * g + o by omega)).trans (s4 o ho2).2) dX8_isGood_98 ?_
      refine e_icmp_ne (tgt := 104) ⟨by omega, by omega⟩ ⟨by omega, by omega⟩ dX8_isGood_99 rfl (fun c_99 => ?_) (fun c_99 => ?_)
      · exact e_loc [(8, .int (iN (16 * (g : Int) + ((nxt (S g).length o : Nat) : Int)))), (7, .int (iN (16 * (g : Int) + (o : Int)))), (6, .int (iN (16 * (g : Int) + ((nxt (S g).length k : Nat) : Int)))), (5, .int (iN (16 * (g : Int) + (k : Int)))), (4, .int (iN (o : Nat))), (3, .int (iN (k : Nat))), (2, .int (iN (S g).length)), (0, .ref m), (1, .int (iN g))] ⟨rfl, rfl, rfl, rfl, rfl, rfl, rfl, rfl, rfl, trivial⟩ (gd_a hS9 hg hk ho (fun sc1 h X hA hB => by
          refine e_iinc dX8_isGood_379 rfl ?_
          refine e_goto (tgt := 24) dX8_isGood_382 rfl ?_
          exact e_loc [(4, .int (iN (o + 1 : Nat))), (3, .int (iN (k : Nat))), (2, .int (iN (S g).length)), (0, .ref m), (1, .int (iN g))] ⟨rfl, rfl, rfl, rfl, rfl, trivial⟩ (ih (o + 1) _ _ X hA (fun q hq => if c : q < o then hN q c else by rw [show q = o by omega]; exact hB) (by omega))) hb (by omega) X hA)
      · refine e_iconst dX8_isGood_102 ?_
        refine e_zret rfl (by first | exact Or.inl rfl | exact Or.inr rfl | exact bP_01 _) dX8_isGood_103 (by decide) (by decide) ?_
        exact ⟨_, rfl, rfl, by rw [hb (Or.inl ⟨by omega, by omega⟩)], _, X, hA⟩
set_option maxRecDepth 20000 in
theorem gd_outer {z : Option Nat} {g : Nat} (hS : mdS ar S) (hg : g < 4) (h3 : 3 ≤ (S g).length) : ∀ (n k : Nat) (sc1 : Nat → Int) (h : g_hp), mdX G sc1 ar m h0 h → agr [17, 18, 19, 20, 21, 22, 23, 24] [] sc ar sc1 ar → (∀ q, q < k → ∀ o, o < q → ¬ bdM (S g) q o) → k + n = (S g).length → Ev (g_B G mX8_isGood 0 0 (fun o1 z1 h1 => ∃ v, o1 = .inl v ∧ z1 = z ∧ (fun v h1 => v = some (.int (iN (bC (gdM (S g))))) ∧ ∃ sc2, mdX G sc2 ar m h0 h1 ∧ agr [17, 18, 19, 20, 21, 22, 23, 24] [] sc ar sc2 ar) v h1)) 0 0 z h 16 [(3, .int (iN (k : Nat))), (2, .int (iN (S g).length)), (0, .ref m), (1, .int (iN g))] [] := by
  have s2 := (hS g hg).2.1
  intro n
  induction n with
  | zero =>
    intro k sc1 h X hA hN hkn
    have e9 : k = (S g).length := by omega
    have e7 : gdM (S g) := ⟨h3, fun q hq => hN q (by omega)⟩
    refine e_iload_n dX8_isGood_16 rfl ?_
    refine e_iload_n dX8_isGood_17 rfl ?_
    refine e_icmp_ge (tgt := 391) ⟨by omega, by omega⟩ ⟨by omega, by omega⟩ dX8_isGood_18 rfl (fun c_18 => ?_) (fun c_18 => absurd (by omega) c_18)
    refine e_iconst dX8_isGood_391 ?_
    refine e_zret rfl (by first | exact Or.inl rfl | exact Or.inr rfl | exact bP_01 _) dX8_isGood_392 (by decide) (by decide) ?_
    exact ⟨_, rfl, rfl, by rw [bC_t e7], _, X, hA⟩
  | succ n ih =>
    intro k sc1 h X hA hN hkn
    have hk : k < (S g).length := by omega
    refine e_iload_n dX8_isGood_16 rfl ?_
    refine e_iload_n dX8_isGood_17 rfl ?_
    refine e_icmp_ge (tgt := 391) ⟨by omega, by omega⟩ ⟨by omega, by omega⟩ dX8_isGood_18 rfl (fun c_18 => absurd c_18 (by omega)) (fun c_18 => ?_)
    refine e_iconst dX8_isGood_21 ?_
    refine e_istore dX8_isGood_22 rfl ?_
    exact e_loc [(4, .int (iN (0 : Nat))), (3, .int (iN (k : Nat))), (2, .int (iN (S g).length)), (0, .ref m), (1, .int (iN g))] ⟨rfl, rfl, rfl, rfl, rfl, trivial⟩ (gd_inner hS hg hk (fun sc1 h X hA hB => by
      refine e_iinc dX8_isGood_385 rfl ?_
      refine e_goto (tgt := 16) dX8_isGood_388 rfl ?_
      exact e_loc [(3, .int (iN (k + 1 : Nat))), (2, .int (iN (S g).length)), (0, .ref m), (1, .int (iN g))] ⟨rfl, rfl, rfl, rfl, trivial⟩ (ih (k + 1) _ _ X hA (fun q hq => if c : q < k then hN q c else by rw [show q = k by omega]; exact hB) (by omega))) _ 0 _ _ X hA (fun q hq => absurd hq (Nat.not_lt_zero _)) (Nat.zero_add _))
set_option maxRecDepth 20000 in
theorem S_isGood (X : mdX G sc ar m h0 h) (hS : mdS ar S) {g : Nat} (hg : g < 4) : Does G mX8_isGood [.ref m, .int (iN g)] h (fun v h1 => v = some (.int (iN (bC (gdM (S g))))) ∧ ∃ sc2, mdX G sc2 ar m h0 h1 ∧ agr [17, 18, 19, 20, 21, 22, 23, 24] [] sc ar sc2 ar) := by
  obtain ⟨s1, s2, s3, s4⟩ := hS g hg
  intro z
  refine run_of rfl plX8 rfl ?_
  refine e_aload_n dX8_isGood_0 rfl ?_
  refine e_getf fX8_48 X.obj rfl dX8_isGood_1 ?_
  refine e_iload_n dX8_isGood_4 rfl ?_
  refine e_ial X.a11 (by omega) (by omega) rfl s1 dX8_isGood_5 ?_
  refine e_istore_n dX8_isGood_6 rfl ?_
  refine e_iload_n dX8_isGood_7 rfl ?_
  refine e_iconst dX8_isGood_8 ?_
  refine e_icmp_ge (tgt := 14) ⟨by omega, by omega⟩ ⟨by omega, by omega⟩ dX8_isGood_9 rfl (fun c_9 => ?_) (fun c_9 => ?_)
  · refine e_iconst dX8_isGood_14 ?_
    refine e_istore_n dX8_isGood_15 rfl ?_
    exact e_loc [(3, .int (iN (0 : Nat))), (2, .int (iN (S g).length)), (0, .ref m), (1, .int (iN g))] ⟨rfl, rfl, rfl, rfl, trivial⟩ (gd_outer hS hg (by omega) _ 0 _ _ X agr.rf (fun q hq => absurd hq (Nat.not_lt_zero _)) (Nat.zero_add _))
  · refine e_iconst dX8_isGood_12 ?_
    refine e_zret rfl (by first | exact Or.inl rfl | exact Or.inr rfl | exact bP_01 _) dX8_isGood_13 (by decide) (by decide) ?_
    exact ⟨_, rfl, rfl, by rw [show bC (gdM (S g)) = 0 from bC_f (fun w => absurd w.1 (by omega))], _, X, agr.rf⟩
set_option maxRecDepth 20000 in
theorem do_loop {z : Option Nat} (X : mdX G sc ar m h0 h) (hS : mdS ar S) {g : Nat} (hg : g < 4) : ∀ (n k : Nat), k + n = (S g).length → Ev (g_B G mX8_doubledOf 0 0 (fun o z1 h1 => o = .inl (some (.int (iN (da (S g))))) ∧ z1 = z ∧ h1 = h)) 0 0 z h 4 [(3, .int (iN (k : Nat))), (2, .int (iN (sumN (daT (S g)) (k)))), (0, .ref m), (1, .int (iN g))] [] := by
  have hS9 := hS
  obtain ⟨s1, s2, s3, s4⟩ := hS g hg
  intro n
  induction n with
  | zero =>
    intro k hkn
    have e9 : k = (S g).length := by omega
    rw [e9]
    refine e_iload_n dX8_doubledOf_4 rfl ?_
    refine e_aload_n dX8_doubledOf_5 rfl ?_
    refine e_getf fX8_48 X.obj rfl dX8_doubledOf_6 ?_
    refine e_iload_n dX8_doubledOf_9 rfl ?_
    refine e_ial X.a11 (by omega) (by omega) rfl s1 dX8_doubledOf_10 ?_
    refine e_icmp_ge (tgt := 72) ⟨by omega, by omega⟩ ⟨by omega, by omega⟩ dX8_doubledOf_11 rfl (fun c_11 => ?_) (fun c_11 => absurd (by omega) c_11)
    refine e_iload_n dX8_doubledOf_72 rfl ?_
    refine e_iret rfl dX8_doubledOf_73 (by decide) (by decide) ?_
    exact ⟨rfl, rfl, rfl⟩
  | succ n ih =>
    intro k hkn
    have hk : k < (S g).length := by omega
    have hn := nxt_lt hk
    refine e_iload_n dX8_doubledOf_4 rfl ?_
    refine e_aload_n dX8_doubledOf_5 rfl ?_
    refine e_getf fX8_48 X.obj rfl dX8_doubledOf_6 ?_
    refine e_iload_n dX8_doubledOf_9 rfl ?_
    refine e_ial X.a11 (by omega) (by omega) rfl s1 dX8_doubledOf_10 ?_
    refine e_icmp_ge (tgt := 72) ⟨by omega, by omega⟩ ⟨by omega, by omega⟩ dX8_doubledOf_11 rfl (fun c_11 => absurd c_11 (by omega)) (fun c_11 => ?_)
    refine e_aload_n dX8_doubledOf_14 rfl ?_
    refine e_iload_n dX8_doubledOf_15 rfl ?_
    refine e_iload_n dX8_doubledOf_16 rfl ?_
    refine e_pureV qcX8_226 X.obj rfl rfl (S_corner0 X hS9 hg hk) rfl rfl rfl rfl dX8_doubledOf_17 ?_
    refine e_istore dX8_doubledOf_20 rfl ?_
    refine e_aload_n dX8_doubledOf_22 rfl ?_
    refine e_iload_n dX8_doubledOf_23 rfl ?_
    refine e_iload_n dX8_doubledOf_24 rfl ?_
    refine e_iconst dX8_doubledOf_25 ?_
    refine e_iadd dX8_doubledOf_26 ?_
    refine e_pureV qcX8_226 X.obj rfl rfl (S_corner1 X hS9 hg hk) rfl rfl rfl rfl dX8_doubledOf_27 ?_
    refine e_istore dX8_doubledOf_30 rfl ?_
    refine e_iload_n dX8_doubledOf_32 rfl ?_
    refine e_aload_n dX8_doubledOf_33 rfl ?_
    refine e_getf fX8_42 X.obj rfl dX8_doubledOf_34 ?_
    refine e_iload dX8_doubledOf_37 rfl ?_
    refine e_ial X.a9 (by omega) (by omega) rfl ((congrArg _ (show (16 * ((g : Nat) : Int) + ((k : Nat) : Int)).toNat = 16 * g + k by omega)).trans (s4 k hk).1) dX8_doubledOf_39 ?_
    refine e_aload_n dX8_doubledOf_40 rfl ?_
    refine e_getf fX8_45 X.obj rfl dX8_doubledOf_41 ?_
    refine e_iload dX8_doubledOf_44 rfl ?_
    refine e_ial X.a10 (by omega) (by omega) rfl ((congrArg _ (show (16 * ((g : Nat) : Int) + (((nxt (S g).length k) : Nat) : Int)).toNat = 16 * g + (nxt (S g).length k) by omega)).trans (s4 (nxt (S g).length k) hn).2) dX8_doubledOf_46 ?_
    refine e_imul dX8_doubledOf_47 ?_
    refine e_aload_n dX8_doubledOf_48 rfl ?_
    refine e_getf fX8_45 X.obj rfl dX8_doubledOf_49 ?_
    refine e_iload dX8_doubledOf_52 rfl ?_
    refine e_ial X.a10 (by omega) (by omega) rfl ((congrArg _ (show (16 * ((g : Nat) : Int) + ((k : Nat) : Int)).toNat = 16 * g + k by omega)).trans (s4 k hk).2) dX8_doubledOf_54 ?_
    refine e_aload_n dX8_doubledOf_55 rfl ?_
    refine e_getf fX8_42 X.obj rfl dX8_doubledOf_56 ?_
    refine e_iload dX8_doubledOf_59 rfl ?_
    refine e_ial X.a9 (by omega) (by omega) rfl ((congrArg _ (show (16 * ((g : Nat) : Int) + (((nxt (S g).length k) : Nat) : Int)).toNat = 16 * g + (nxt (S g).length k) by omega)).trans (s4 (nxt (S g).length k) hn).1) dX8_doubledOf_61 ?_
    refine e_imul dX8_doubledOf_62 ?_
    refine e_isub dX8_doubledOf_63 ?_
    refine e_iadd dX8_doubledOf_64 ?_
    refine e_istore_n dX8_doubledOf_65 rfl ?_
    refine e_iinc dX8_doubledOf_66 rfl ?_
    refine e_goto (tgt := 4) dX8_doubledOf_69 rfl ?_
    exact e_loc [(3, .int (iN (k + 1 : Nat))), (2, .int (iN (sumN (daT (S g)) (k + 1)))), (0, .ref m), (1, .int (iN g))] ⟨rfl, rfl, rfl, rfl, trivial⟩ (ih (k + 1) (by omega))
set_option maxRecDepth 20000 in
theorem S_doubledOf (X : mdX G sc ar m h0 h) (hS : mdS ar S) {g : Nat} (hg : g < 4) : Pure G mX8_doubledOf [.ref m, .int (iN g)] h (.int (iN (da (S g)))) := by
  intro z
  refine run_of rfl plX8 rfl ?_
  refine e_iconst dX8_doubledOf_0 ?_
  refine e_istore_n dX8_doubledOf_1 rfl ?_
  refine e_iconst dX8_doubledOf_2 ?_
  refine e_istore_n dX8_doubledOf_3 rfl ?_
  exact e_loc [(3, .int (iN (0 : Nat))), (2, .int (iN (sumN (daT (S g)) (0)))), (0, .ref m), (1, .int (iN g))] ⟨rfl, rfl, rfl, rfl, trivial⟩ (do_loop X hS hg _ 0 (Nat.zero_add _))
set_option maxRecDepth 20000 in
theorem so_loop {z : Option Nat} (X : mdX G sc ar m h0 h) (hS : mdS ar S) {g : Nat} (hg : g < 4) {s x y : Int} (hs : 0 ≤ s ∧ s ≤ 2) (hx : b31 x) (hy : b31 y) : ∀ (n k : Nat), k + n = (S g).length → (∀ j, j < k → ¬ eOn (S g) s x y j) → Ev (g_B G mX8_sideOf 0 0 (fun o z1 h1 => o = .inl (some (.int (iN (wI (S g) s x y)))) ∧ z1 = z ∧ h1 = h)) 0 0 z h 6 [(8, .int (iN (k : Nat))), (7, .int (iN (bC (oddN (eTog (S g) s x y) (k))))), (0, .ref m), (1, .int (iN g)), (2, .long (lI x)), (4, .long (lI y)), (6, .int (iN s))] [] := by
  have hS9 := hS
  obtain ⟨s1, s2, s3, s4⟩ := hS g hg
  intro n
  induction n with
  | zero =>
    intro k hkn hno
    have e9 : k = (S g).length := by omega
    subst e9
    letI : Decidable (oddN (eTog (S g) s x y) (S g).length) := Classical.propDecidable _
    refine e_iload dX8_sideOf_6 rfl ?_
    refine e_aload_n dX8_sideOf_8 rfl ?_
    refine e_getf fX8_48 X.obj rfl dX8_sideOf_9 ?_
    refine e_iload_n dX8_sideOf_12 rfl ?_
    refine e_ial X.a11 (by omega) (by omega) rfl s1 dX8_sideOf_13 ?_
    refine e_icmp_ge (tgt := 199) ⟨by omega, by omega⟩ ⟨by omega, by omega⟩ dX8_sideOf_14 rfl (fun c_14 => ?_) (fun c_14 => absurd (by omega) c_14)
    refine e_iload dX8_sideOf_199 rfl ?_
    refine e_ifP_eq (tgt := 208) dX8_sideOf_201 rfl (fun c_201 => ?_) (fun c_201 => ?_)
    · have e6 : wI (S g) s x y = -1 := (wI_e hno).2 c_201
      refine e_iconst dX8_sideOf_208 ?_
      refine e_iret rfl dX8_sideOf_209 (by decide) (by decide) ?_
      exact ⟨by rw [e6], rfl, rfl⟩
    · have e6 : wI (S g) s x y = 1 := (wI_e hno).1 c_201
      refine e_iconst dX8_sideOf_204 ?_
      refine e_goto (tgt := 209) dX8_sideOf_205 rfl ?_
      refine e_iret rfl dX8_sideOf_209 (by decide) (by decide) ?_
      exact ⟨by rw [e6], rfl, rfl⟩
  | succ n ih =>
    intro k hkn hno
    have hk : k < (S g).length := by omega
    have hn := nxt_lt hk
    have u1 := s3.at hk
    have u2 := s3.at hn
    have m1 := mul_bd (A := 2) (B := 200) (a := s) (b := pX (S g) k) ⟨by omega, hs.2⟩ u1.1
    have m2 := mul_bd (A := 2) (B := 200) (a := s) (b := pY (S g) k) ⟨by omega, hs.2⟩ u1.2.1
    have m3 := mul_bd (A := 2) (B := 200) (a := s) (b := pX (S g) (nxt (S g).length k)) ⟨by omega, hs.2⟩ u2.1
    have m4 := mul_bd (A := 2) (B := 200) (a := s) (b := pY (S g) (nxt (S g).length k)) ⟨by omega, hs.2⟩ u2.2.1
    have eO : eOn (S g) s x y k ↔ on (s * pX (S g) k) (s * pY (S g) k) (s * pX (S g) (nxt (S g).length k)) (s * pY (S g) (nxt (S g).length k)) x y := Iff.rfl
    have eT : eTog (S g) s x y k ↔ ¬ (y < s * pY (S g) k ↔ y < s * pY (S g) (nxt (S g).length k)) ∧ (0 < tw (s * pX (S g) k) (s * pY (S g) k) (s * pX (S g) (nxt (S g).length k)) (s * pY (S g) (nxt (S g).length k)) x y ↔ s * pY (S g) k < s * pY (S g) (nxt (S g).length k)) := Iff.rfl
    letI : Decidable (oddN (eTog (S g) s x y) k) := Classical.propDecidable _
    refine e_iload dX8_sideOf_6 rfl ?_
    refine e_aload_n dX8_sideOf_8 rfl ?_
    refine e_getf fX8_48 X.obj rfl dX8_sideOf_9 ?_
    refine e_iload_n dX8_sideOf_12 rfl ?_
    refine e_ial X.a11 (by omega) (by omega) rfl s1 dX8_sideOf_13 ?_
    refine e_icmp_ge (tgt := 199) ⟨by omega, by omega⟩ ⟨by omega, by omega⟩ dX8_sideOf_14 rfl (fun c_14 => absurd c_14 (by omega)) (fun c_14 => ?_)
    refine e_aload_n dX8_sideOf_17 rfl ?_
    refine e_iload_n dX8_sideOf_18 rfl ?_
    refine e_iload dX8_sideOf_19 rfl ?_
    refine e_pureV qcX8_226 X.obj rfl rfl (S_corner0 X hS9 hg hk) rfl rfl rfl rfl dX8_sideOf_21 ?_
    refine e_istore dX8_sideOf_24 rfl ?_
    refine e_aload_n dX8_sideOf_26 rfl ?_
    refine e_iload_n dX8_sideOf_27 rfl ?_
    refine e_iload dX8_sideOf_28 rfl ?_
    refine e_iconst dX8_sideOf_30 ?_
    refine e_iadd dX8_sideOf_31 ?_
    refine e_pureV qcX8_226 X.obj rfl rfl (S_corner1 X hS9 hg hk) rfl rfl rfl rfl dX8_sideOf_32 ?_
    refine e_istore dX8_sideOf_35 rfl ?_
    refine e_iload dX8_sideOf_37 rfl ?_
    refine e_i2l ⟨by omega, by omega⟩ dX8_sideOf_39 ?_
    refine e_aload_n dX8_sideOf_40 rfl ?_
    refine e_getf fX8_42 X.obj rfl dX8_sideOf_41 ?_
    refine e_iload dX8_sideOf_44 rfl ?_
    refine e_ial X.a9 (by omega) (by omega) rfl ((congrArg _ (show (16 * ((g : Nat) : Int) + ((k : Nat) : Int)).toNat = 16 * g + k by omega)).trans (s4 k hk).1) dX8_sideOf_46 ?_
    refine e_i2l ⟨by omega, by omega⟩ dX8_sideOf_47 ?_
    refine e_lmul dX8_sideOf_48 ?_
    refine e_lstore dX8_sideOf_49 rfl ?_
    refine e_iload dX8_sideOf_51 rfl ?_
    refine e_i2l ⟨by omega, by omega⟩ dX8_sideOf_53 ?_
    refine e_aload_n dX8_sideOf_54 rfl ?_
    refine e_getf fX8_45 X.obj rfl dX8_sideOf_55 ?_
    refine e_iload dX8_sideOf_58 rfl ?_
    refine e_ial X.a10 (by omega) (by omega) rfl ((congrArg _ (show (16 * ((g : Nat) : Int) + ((k : Nat) : Int)).toNat = 16 * g + k by omega)).trans (s4 k hk).2) dX8_sideOf_60 ?_
    refine e_i2l ⟨by omega, by omega⟩ dX8_sideOf_61 ?_
    refine e_lmul dX8_sideOf_62 ?_
    refine e_lstore dX8_sideOf_63 rfl ?_
    refine e_iload dX8_sideOf_65 rfl ?_
    refine e_i2l ⟨by omega, by omega⟩ dX8_sideOf_67 ?_
    refine e_aload_n dX8_sideOf_68 rfl ?_
    refine e_getf fX8_42 X.obj rfl dX8_sideOf_69 ?_
    refine e_iload dX8_sideOf_72 rfl ?_
    refine e_ial X.a9 (by omega) (by omega) rfl ((congrArg _ (show (16 * ((g : Nat) : Int) + (((nxt (S g).length k) : Nat) : Int)).toNat = 16 * g + (nxt (S g).length k) by omega)).trans (s4 (nxt (S g).length k) hn).1) dX8_sideOf_74 ?_
    refine e_i2l ⟨by omega, by omega⟩ dX8_sideOf_75 ?_
    refine e_lmul dX8_sideOf_76 ?_
    refine e_lstore dX8_sideOf_77 rfl ?_
    refine e_iload dX8_sideOf_79 rfl ?_
    refine e_i2l ⟨by omega, by omega⟩ dX8_sideOf_81 ?_
    refine e_aload_n dX8_sideOf_82 rfl ?_
    refine e_getf fX8_45 X.obj rfl dX8_sideOf_83 ?_
    refine e_iload dX8_sideOf_86 rfl ?_
    refine e_ial X.a10 (by omega) (by omega) rfl ((congrArg _ (show (16 * ((g : Nat) : Int) + (((nxt (S g).length k) : Nat) : Int)).toNat = 16 * g + (nxt (S g).length k) by omega)).trans (s4 (nxt (S g).length k) hn).2) dX8_sideOf_88 ?_
    refine e_i2l ⟨by omega, by omega⟩ dX8_sideOf_89 ?_
    refine e_lmul dX8_sideOf_90 ?_
    refine e_lstore dX8_sideOf_91 rfl ?_
    generalize s * pX (S g) k = ax at m1 eO eT ⊢
    generalize s * pY (S g) k = ay at m2 eO eT ⊢
    generalize s * pX (S g) (nxt (S g).length k) = bx at m3 eO eT ⊢
    generalize s * pY (S g) (nxt (S g).length k) = by' at m4 eO eT ⊢
    have hsg := sg_bd (tw ax ay bx by' x y)
    refine e_lload dX8_sideOf_93 rfl ?_
    refine e_lload dX8_sideOf_95 rfl ?_
    refine e_lload dX8_sideOf_97 rfl ?_
    refine e_lload dX8_sideOf_99 rfl ?_
    refine e_lload_n dX8_sideOf_101 rfl ?_
    refine e_lload dX8_sideOf_102 rfl ?_
    refine e_pureS qcX8_169 (S_misOn ⟨by omega, by omega⟩ ⟨by omega, by omega⟩ ⟨by omega, by omega⟩ ⟨by omega, by omega⟩ hx hy) rfl rfl rfl rfl dX8_sideOf_104 ?_
    refine e_ifP_eq (tgt := 112) dX8_sideOf_107 rfl (fun c_107 => ?_) (fun c_107 => ?_)
    · refine e_lload dX8_sideOf_112 rfl ?_
      refine e_lload dX8_sideOf_114 rfl ?_
      refine e_lif_le (tgt := 124) ⟨by omega, by omega⟩ ⟨by omega, by omega⟩ dX8_sideOf_116 dX8_sideOf_117 rfl (fun c_116 => ?_) (fun c_116 => ?_)
      · refine e_iconst dX8_sideOf_124 ?_
        refine e_top (bP (y < ay)) (bP_f (Int.not_lt.mpr c_116)).symm ?_
        refine e_lload dX8_sideOf_125 rfl ?_
        refine e_lload dX8_sideOf_127 rfl ?_
        refine e_lif_le (tgt := 137) ⟨by omega, by omega⟩ ⟨by omega, by omega⟩ dX8_sideOf_129 dX8_sideOf_130 rfl (fun c_129 => ?_) (fun c_129 => ?_)
        · refine e_iconst dX8_sideOf_137 ?_
          refine e_top (bP (y < by')) (bP_f (Int.not_lt.mpr c_129)).symm ?_
          refine e_icmpB_ne (tgt := 144) dX8_sideOf_138 rfl (fun c_138 => ?_) (fun c_138 => ?_)
          · have n0 : tw ax ay bx by' x y ≠ 0 := fun w => c_107 (cross_on c_138 w)
            have h0 := sg_0 (v := tw ax ay bx by' x y)
            have h1 : 0 < sg (tw ax ay bx by' x y) ↔ 0 < tw ax ay bx by' x y := sg_p
            refine e_lload dX8_sideOf_144 rfl ?_
            refine e_lload dX8_sideOf_146 rfl ?_
            refine e_lload dX8_sideOf_148 rfl ?_
            refine e_lload dX8_sideOf_150 rfl ?_
            refine e_lload_n dX8_sideOf_152 rfl ?_
            refine e_lload dX8_sideOf_153 rfl ?_
            refine e_pureS qcX8_132 (S_turns (twr ⟨by omega, by omega⟩ ⟨by omega, by omega⟩ ⟨by omega, by omega⟩ ⟨by omega, by omega⟩ hx hy)) rfl rfl rfl rfl dX8_sideOf_155 ?_
            refine e_istore dX8_sideOf_158 rfl ?_
            refine e_lload dX8_sideOf_160 rfl ?_
            refine e_lload dX8_sideOf_162 rfl ?_
            refine e_lif_le (tgt := 176) ⟨by omega, by omega⟩ ⟨by omega, by omega⟩ dX8_sideOf_164 dX8_sideOf_165 rfl (fun c_164 => ?_) (fun c_164 => ?_)
            · refine e_iload dX8_sideOf_176 rfl ?_
              refine e_if_ge (tgt := 193) ⟨by omega, by omega⟩ dX8_sideOf_178 rfl (fun c_178 => ?_) (fun c_178 => ?_)
              · have e5 : ¬ eTog (S g) s x y k := fun w => (fun q : 0 < tw ax ay bx by' x y => absurd ((eT.mp w).2.mp q) (by omega)) (h1.mp (by omega))
                refine e_iinc dX8_sideOf_193 rfl ?_
                refine e_goto (tgt := 6) dX8_sideOf_196 rfl ?_
                first | exact e_loc [(8, .int (iN (k + 1 : Nat))), (7, .int (iN (bC (oddN (eTog (S g) s x y) (k + 1))))), (0, .ref m), (1, .int (iN g)), (2, .long (lI x)), (4, .long (lI y)), (6, .int (iN s))] ⟨rfl, by rw [e3]; rfl, rfl, rfl, rfl, rfl, rfl, trivial⟩ (ih (k + 1) (by omega) (fun j hj => if c : j < k then hno j c else by rw [show j = k by omega]; exact fun w => c_107 (eO.mp w))) | exact e_loc [(8, .int (iN (k + 1 : Nat))), (7, .int (iN (bC (oddN (eTog (S g) s x y) (k + 1))))), (0, .ref m), (1, .int (iN g)), (2, .long (lI x)), (4, .long (lI y)), (6, .int (iN s))] ⟨rfl, by rw [← bC_c (odd_f e5)]; rfl, rfl, rfl, rfl, rfl, rfl, trivial⟩ (ih (k + 1) (by omega) (fun j hj => if c : j < k then hno j c else by rw [show j = k by omega]; exact fun w => c_107 (eO.mp w)))
              · have e5 : eTog (S g) s x y k := eT.mpr ⟨c_138, fun q => absurd (h1.mpr q) (by omega), fun q => absurd q (by omega)⟩
                refine e_iload dX8_sideOf_181 rfl ?_
                refine e_ifP_ne (tgt := 190) dX8_sideOf_183 rfl (fun c_183 => ?_) (fun c_183 => ?_)
                · have e3 : bC (oddN (eTog (S g) s x y) (k + 1)) = 0 := bC_f (fun w => ((odd_t e5).mpr w) c_183)
                  refine e_iconst dX8_sideOf_190 ?_
                  refine e_istore dX8_sideOf_191 rfl ?_
                  refine e_iinc dX8_sideOf_193 rfl ?_
                  refine e_goto (tgt := 6) dX8_sideOf_196 rfl ?_
                  first | exact e_loc [(8, .int (iN (k + 1 : Nat))), (7, .int (iN (bC (oddN (eTog (S g) s x y) (k + 1))))), (0, .ref m), (1, .int (iN g)), (2, .long (lI x)), (4, .long (lI y)), (6, .int (iN s))] ⟨rfl, by rw [e3]; rfl, rfl, rfl, rfl, rfl, rfl, trivial⟩ (ih (k + 1) (by omega) (fun j hj => if c : j < k then hno j c else by rw [show j = k by omega]; exact fun w => c_107 (eO.mp w))) | exact e_loc [(8, .int (iN (k + 1 : Nat))), (7, .int (iN (bC (oddN (eTog (S g) s x y) (k + 1))))), (0, .ref m), (1, .int (iN g)), (2, .long (lI x)), (4, .long (lI y)), (6, .int (iN s))] ⟨rfl, by rw [← bC_c (odd_f e5)]; rfl, rfl, rfl, rfl, rfl, rfl, trivial⟩ (ih (k + 1) (by omega) (fun j hj => if c : j < k then hno j c else by rw [show j = k by omega]; exact fun w => c_107 (eO.mp w)))
                · have e3 : bC (oddN (eTog (S g) s x y) (k + 1)) = 1 := bC_t ((odd_t e5).mp c_183)
                  refine e_iconst dX8_sideOf_186 ?_
                  refine e_goto (tgt := 191) dX8_sideOf_187 rfl ?_
                  refine e_istore dX8_sideOf_191 rfl ?_
                  refine e_iinc dX8_sideOf_193 rfl ?_
                  refine e_goto (tgt := 6) dX8_sideOf_196 rfl ?_
                  first | exact e_loc [(8, .int (iN (k + 1 : Nat))), (7, .int (iN (bC (oddN (eTog (S g) s x y) (k + 1))))), (0, .ref m), (1, .int (iN g)), (2, .long (lI x)), (4, .long (lI y)), (6, .int (iN s))] ⟨rfl, by rw [e3]; rfl, rfl, rfl, rfl, rfl, rfl, trivial⟩ (ih (k + 1) (by omega) (fun j hj => if c : j < k then hno j c else by rw [show j = k by omega]; exact fun w => c_107 (eO.mp w))) | exact e_loc [(8, .int (iN (k + 1 : Nat))), (7, .int (iN (bC (oddN (eTog (S g) s x y) (k + 1))))), (0, .ref m), (1, .int (iN g)), (2, .long (lI x)), (4, .long (lI y)), (6, .int (iN s))] ⟨rfl, by rw [← bC_c (odd_f e5)]; rfl, rfl, rfl, rfl, rfl, rfl, trivial⟩ (ih (k + 1) (by omega) (fun j hj => if c : j < k then hno j c else by rw [show j = k by omega]; exact fun w => c_107 (eO.mp w)))
            · refine e_iload dX8_sideOf_168 rfl ?_
              refine e_if_le (tgt := 193) ⟨by omega, by omega⟩ dX8_sideOf_170 rfl (fun c_170 => ?_) (fun c_170 => ?_)
              · have e5 : ¬ eTog (S g) s x y k := fun w => absurd (h1.mpr ((eT.mp w).2.mpr (Int.not_le.mp c_164))) (by omega)
                refine e_iinc dX8_sideOf_193 rfl ?_
                refine e_goto (tgt := 6) dX8_sideOf_196 rfl ?_
                first | exact e_loc [(8, .int (iN (k + 1 : Nat))), (7, .int (iN (bC (oddN (eTog (S g) s x y) (k + 1))))), (0, .ref m), (1, .int (iN g)), (2, .long (lI x)), (4, .long (lI y)), (6, .int (iN s))] ⟨rfl, by rw [e3]; rfl, rfl, rfl, rfl, rfl, rfl, trivial⟩ (ih (k + 1) (by omega) (fun j hj => if c : j < k then hno j c else by rw [show j = k by omega]; exact fun w => c_107 (eO.mp w))) | exact e_loc [(8, .int (iN (k + 1 : Nat))), (7, .int (iN (bC (oddN (eTog (S g) s x y) (k + 1))))), (0, .ref m), (1, .int (iN g)), (2, .long (lI x)), (4, .long (lI y)), (6, .int (iN s))] ⟨rfl, by rw [← bC_c (odd_f e5)]; rfl, rfl, rfl, rfl, rfl, rfl, trivial⟩ (ih (k + 1) (by omega) (fun j hj => if c : j < k then hno j c else by rw [show j = k by omega]; exact fun w => c_107 (eO.mp w)))
              · have e5 : eTog (S g) s x y k := eT.mpr ⟨c_138, fun _ => Int.not_le.mp c_164, fun _ => h1.mp (by omega)⟩
                refine e_goto (tgt := 181) dX8_sideOf_173 rfl ?_
                refine e_iload dX8_sideOf_181 rfl ?_
                refine e_ifP_ne (tgt := 190) dX8_sideOf_183 rfl (fun c_183 => ?_) (fun c_183 => ?_)
                · have e3 : bC (oddN (eTog (S g) s x y) (k + 1)) = 0 := bC_f (fun w => ((odd_t e5).mpr w) c_183)
                  refine e_iconst dX8_sideOf_190 ?_
                  refine e_istore dX8_sideOf_191 rfl ?_
                  refine e_iinc dX8_sideOf_193 rfl ?_
                  refine e_goto (tgt := 6) dX8_sideOf_196 rfl ?_
                  first | exact e_loc [(8, .int (iN (k + 1 : Nat))), (7, .int (iN (bC (oddN (eTog (S g) s x y) (k + 1))))), (0, .ref m), (1, .int (iN g)), (2, .long (lI x)), (4, .long (lI y)), (6, .int (iN s))] ⟨rfl, by rw [e3]; rfl, rfl, rfl, rfl, rfl, rfl, trivial⟩ (ih (k + 1) (by omega) (fun j hj => if c : j < k then hno j c else by rw [show j = k by omega]; exact fun w => c_107 (eO.mp w))) | exact e_loc [(8, .int (iN (k + 1 : Nat))), (7, .int (iN (bC (oddN (eTog (S g) s x y) (k + 1))))), (0, .ref m), (1, .int (iN g)), (2, .long (lI x)), (4, .long (lI y)), (6, .int (iN s))] ⟨rfl, by rw [← bC_c (odd_f e5)]; rfl, rfl, rfl, rfl, rfl, rfl, trivial⟩ (ih (k + 1) (by omega) (fun j hj => if c : j < k then hno j c else by rw [show j = k by omega]; exact fun w => c_107 (eO.mp w)))
                · have e3 : bC (oddN (eTog (S g) s x y) (k + 1)) = 1 := bC_t ((odd_t e5).mp c_183)
                  refine e_iconst dX8_sideOf_186 ?_
                  refine e_goto (tgt := 191) dX8_sideOf_187 rfl ?_
                  refine e_istore dX8_sideOf_191 rfl ?_
                  refine e_iinc dX8_sideOf_193 rfl ?_
                  refine e_goto (tgt := 6) dX8_sideOf_196 rfl ?_
                  first | exact e_loc [(8, .int (iN (k + 1 : Nat))), (7, .int (iN (bC (oddN (eTog (S g) s x y) (k + 1))))), (0, .ref m), (1, .int (iN g)), (2, .long (lI x)), (4, .long (lI y)), (6, .int (iN s))] ⟨rfl, by rw [e3]; rfl, rfl, rfl, rfl, rfl, rfl, trivial⟩ (ih (k + 1) (by omega) (fun j hj => if c : j < k then hno j c else by rw [show j = k by omega]; exact fun w => c_107 (eO.mp w))) | exact e_loc [(8, .int (iN (k + 1 : Nat))), (7, .int (iN (bC (oddN (eTog (S g) s x y) (k + 1))))), (0, .ref m), (1, .int (iN g)), (2, .long (lI x)), (4, .long (lI y)), (6, .int (iN s))] ⟨rfl, by rw [← bC_c (odd_f e5)]; rfl, rfl, rfl, rfl, rfl, rfl, trivial⟩ (ih (k + 1) (by omega) (fun j hj => if c : j < k then hno j c else by rw [show j = k by omega]; exact fun w => c_107 (eO.mp w)))
          · have e5 : ¬ eTog (S g) s x y k := fun w => (eT.mp w).1 c_138
            refine e_goto (tgt := 193) dX8_sideOf_141 rfl ?_
            refine e_iinc dX8_sideOf_193 rfl ?_
            refine e_goto (tgt := 6) dX8_sideOf_196 rfl ?_
            first | exact e_loc [(8, .int (iN (k + 1 : Nat))), (7, .int (iN (bC (oddN (eTog (S g) s x y) (k + 1))))), (0, .ref m), (1, .int (iN g)), (2, .long (lI x)), (4, .long (lI y)), (6, .int (iN s))] ⟨rfl, by rw [e3]; rfl, rfl, rfl, rfl, rfl, rfl, trivial⟩ (ih (k + 1) (by omega) (fun j hj => if c : j < k then hno j c else by rw [show j = k by omega]; exact fun w => c_107 (eO.mp w))) | exact e_loc [(8, .int (iN (k + 1 : Nat))), (7, .int (iN (bC (oddN (eTog (S g) s x y) (k + 1))))), (0, .ref m), (1, .int (iN g)), (2, .long (lI x)), (4, .long (lI y)), (6, .int (iN s))] ⟨rfl, by rw [← bC_c (odd_f e5)]; rfl, rfl, rfl, rfl, rfl, rfl, trivial⟩ (ih (k + 1) (by omega) (fun j hj => if c : j < k then hno j c else by rw [show j = k by omega]; exact fun w => c_107 (eO.mp w)))
        · refine e_iconst dX8_sideOf_133 ?_
          refine e_top (bP (y < by')) (bP_t (Int.not_le.mp c_129)).symm ?_
          refine e_goto (tgt := 138) dX8_sideOf_134 rfl ?_
          refine e_icmpB_ne (tgt := 144) dX8_sideOf_138 rfl (fun c_138 => ?_) (fun c_138 => ?_)
          · have n0 : tw ax ay bx by' x y ≠ 0 := fun w => c_107 (cross_on c_138 w)
            have h0 := sg_0 (v := tw ax ay bx by' x y)
            have h1 : 0 < sg (tw ax ay bx by' x y) ↔ 0 < tw ax ay bx by' x y := sg_p
            refine e_lload dX8_sideOf_144 rfl ?_
            refine e_lload dX8_sideOf_146 rfl ?_
            refine e_lload dX8_sideOf_148 rfl ?_
            refine e_lload dX8_sideOf_150 rfl ?_
            refine e_lload_n dX8_sideOf_152 rfl ?_
            refine e_lload dX8_sideOf_153 rfl ?_
            refine e_pureS qcX8_132 (S_turns (twr ⟨by omega, by omega⟩ ⟨by omega, by omega⟩ ⟨by omega, by omega⟩ ⟨by omega, by omega⟩ hx hy)) rfl rfl rfl rfl dX8_sideOf_155 ?_
            refine e_istore dX8_sideOf_158 rfl ?_
            refine e_lload dX8_sideOf_160 rfl ?_
            refine e_lload dX8_sideOf_162 rfl ?_
            refine e_lif_le (tgt := 176) ⟨by omega, by omega⟩ ⟨by omega, by omega⟩ dX8_sideOf_164 dX8_sideOf_165 rfl (fun c_164 => ?_) (fun c_164 => ?_)
            · refine e_iload dX8_sideOf_176 rfl ?_
              refine e_if_ge (tgt := 193) ⟨by omega, by omega⟩ dX8_sideOf_178 rfl (fun c_178 => ?_) (fun c_178 => ?_)
              · have e5 : ¬ eTog (S g) s x y k := fun w => (fun q : 0 < tw ax ay bx by' x y => absurd ((eT.mp w).2.mp q) (by omega)) (h1.mp (by omega))
                refine e_iinc dX8_sideOf_193 rfl ?_
                refine e_goto (tgt := 6) dX8_sideOf_196 rfl ?_
                first | exact e_loc [(8, .int (iN (k + 1 : Nat))), (7, .int (iN (bC (oddN (eTog (S g) s x y) (k + 1))))), (0, .ref m), (1, .int (iN g)), (2, .long (lI x)), (4, .long (lI y)), (6, .int (iN s))] ⟨rfl, by rw [e3]; rfl, rfl, rfl, rfl, rfl, rfl, trivial⟩ (ih (k + 1) (by omega) (fun j hj => if c : j < k then hno j c else by rw [show j = k by omega]; exact fun w => c_107 (eO.mp w))) | exact e_loc [(8, .int (iN (k + 1 : Nat))), (7, .int (iN (bC (oddN (eTog (S g) s x y) (k + 1))))), (0, .ref m), (1, .int (iN g)), (2, .long (lI x)), (4, .long (lI y)), (6, .int (iN s))] ⟨rfl, by rw [← bC_c (odd_f e5)]; rfl, rfl, rfl, rfl, rfl, rfl, trivial⟩ (ih (k + 1) (by omega) (fun j hj => if c : j < k then hno j c else by rw [show j = k by omega]; exact fun w => c_107 (eO.mp w)))
              · have e5 : eTog (S g) s x y k := eT.mpr ⟨c_138, fun q => absurd (h1.mpr q) (by omega), fun q => absurd q (by omega)⟩
                refine e_iload dX8_sideOf_181 rfl ?_
                refine e_ifP_ne (tgt := 190) dX8_sideOf_183 rfl (fun c_183 => ?_) (fun c_183 => ?_)
                · have e3 : bC (oddN (eTog (S g) s x y) (k + 1)) = 0 := bC_f (fun w => ((odd_t e5).mpr w) c_183)
                  refine e_iconst dX8_sideOf_190 ?_
                  refine e_istore dX8_sideOf_191 rfl ?_
                  refine e_iinc dX8_sideOf_193 rfl ?_
                  refine e_goto (tgt := 6) dX8_sideOf_196 rfl ?_
                  first | exact e_loc [(8, .int (iN (k + 1 : Nat))), (7, .int (iN (bC (oddN (eTog (S g) s x y) (k + 1))))), (0, .ref m), (1, .int (iN g)), (2, .long (lI x)), (4, .long (lI y)), (6, .int (iN s))] ⟨rfl, by rw [e3]; rfl, rfl, rfl, rfl, rfl, rfl, trivial⟩ (ih (k + 1) (by omega) (fun j hj => if c : j < k then hno j c else by rw [show j = k by omega]; exact fun w => c_107 (eO.mp w))) | exact e_loc [(8, .int (iN (k + 1 : Nat))), (7, .int (iN (bC (oddN (eTog (S g) s x y) (k + 1))))), (0, .ref m), (1, .int (iN g)), (2, .long (lI x)), (4, .long (lI y)), (6, .int (iN s))] ⟨rfl, by rw [← bC_c (odd_f e5)]; rfl, rfl, rfl, rfl, rfl, rfl, trivial⟩ (ih (k + 1) (by omega) (fun j hj => if c : j < k then hno j c else by rw [show j = k by omega]; exact fun w => c_107 (eO.mp w)))
                · have e3 : bC (oddN (eTog (S g) s x y) (k + 1)) = 1 := bC_t ((odd_t e5).mp c_183)
                  refine e_iconst dX8_sideOf_186 ?_
                  refine e_goto (tgt := 191) dX8_sideOf_187 rfl ?_
                  refine e_istore dX8_sideOf_191 rfl ?_
                  refine e_iinc dX8_sideOf_193 rfl ?_
                  refine e_goto (tgt := 6) dX8_sideOf_196 rfl ?_
                  first | exact e_loc [(8, .int (iN (k + 1 : Nat))), (7, .int (iN (bC (oddN (eTog (S g) s x y) (k + 1))))), (0, .ref m), (1, .int (iN g)), (2, .long (lI x)), (4, .long (lI y)), (6, .int (iN s))] ⟨rfl, by rw [e3]; rfl, rfl, rfl, rfl, rfl, rfl, trivial⟩ (ih (k + 1) (by omega) (fun j hj => if c : j < k then hno j c else by rw [show j = k by omega]; exact fun w => c_107 (eO.mp w))) | exact e_loc [(8, .int (iN (k + 1 : Nat))), (7, .int (iN (bC (oddN (eTog (S g) s x y) (k + 1))))), (0, .ref m), (1, .int (iN g)), (2, .long (lI x)), (4, .long (lI y)), (6, .int (iN s))] ⟨rfl, by rw [← bC_c (odd_f e5)]; rfl, rfl, rfl, rfl, rfl, rfl, trivial⟩ (ih (k + 1) (by omega) (fun j hj => if c : j < k then hno j c else by rw [show j = k by omega]; exact fun w => c_107 (eO.mp w)))
            · refine e_iload dX8_sideOf_168 rfl ?_
              refine e_if_le (tgt := 193) ⟨by omega, by omega⟩ dX8_sideOf_170 rfl (fun c_170 => ?_) (fun c_170 => ?_)
              · have e5 : ¬ eTog (S g) s x y k := fun w => absurd (h1.mpr ((eT.mp w).2.mpr (Int.not_le.mp c_164))) (by omega)
                refine e_iinc dX8_sideOf_193 rfl ?_
                refine e_goto (tgt := 6) dX8_sideOf_196 rfl ?_
                first | exact e_loc [(8, .int (iN (k + 1 : Nat))), (7, .int (iN (bC (oddN (eTog (S g) s x y) (k + 1))))), (0, .ref m), (1, .int (iN g)), (2, .long (lI x)), (4, .long (lI y)), (6, .int (iN s))] ⟨rfl, by rw [e3]; rfl, rfl, rfl, rfl, rfl, rfl, trivial⟩ (ih (k + 1) (by omega) (fun j hj => if c : j < k then hno j c else by rw [show j = k by omega]; exact fun w => c_107 (eO.mp w))) | exact e_loc [(8, .int (iN (k + 1 : Nat))), (7, .int (iN (bC (oddN (eTog (S g) s x y) (k + 1))))), (0, .ref m), (1, .int (iN g)), (2, .long (lI x)), (4, .long (lI y)), (6, .int (iN s))] ⟨rfl, by rw [← bC_c (odd_f e5)]; rfl, rfl, rfl, rfl, rfl, rfl, trivial⟩ (ih (k + 1) (by omega) (fun j hj => if c : j < k then hno j c else by rw [show j = k by omega]; exact fun w => c_107 (eO.mp w)))
              · have e5 : eTog (S g) s x y k := eT.mpr ⟨c_138, fun _ => Int.not_le.mp c_164, fun _ => h1.mp (by omega)⟩
                refine e_goto (tgt := 181) dX8_sideOf_173 rfl ?_
                refine e_iload dX8_sideOf_181 rfl ?_
                refine e_ifP_ne (tgt := 190) dX8_sideOf_183 rfl (fun c_183 => ?_) (fun c_183 => ?_)
                · have e3 : bC (oddN (eTog (S g) s x y) (k + 1)) = 0 := bC_f (fun w => ((odd_t e5).mpr w) c_183)
                  refine e_iconst dX8_sideOf_190 ?_
                  refine e_istore dX8_sideOf_191 rfl ?_
                  refine e_iinc dX8_sideOf_193 rfl ?_
                  refine e_goto (tgt := 6) dX8_sideOf_196 rfl ?_
                  first | exact e_loc [(8, .int (iN (k + 1 : Nat))), (7, .int (iN (bC (oddN (eTog (S g) s x y) (k + 1))))), (0, .ref m), (1, .int (iN g)), (2, .long (lI x)), (4, .long (lI y)), (6, .int (iN s))] ⟨rfl, by rw [e3]; rfl, rfl, rfl, rfl, rfl, rfl, trivial⟩ (ih (k + 1) (by omega) (fun j hj => if c : j < k then hno j c else by rw [show j = k by omega]; exact fun w => c_107 (eO.mp w))) | exact e_loc [(8, .int (iN (k + 1 : Nat))), (7, .int (iN (bC (oddN (eTog (S g) s x y) (k + 1))))), (0, .ref m), (1, .int (iN g)), (2, .long (lI x)), (4, .long (lI y)), (6, .int (iN s))] ⟨rfl, by rw [← bC_c (odd_f e5)]; rfl, rfl, rfl, rfl, rfl, rfl, trivial⟩ (ih (k + 1) (by omega) (fun j hj => if c : j < k then hno j c else by rw [show j = k by omega]; exact fun w => c_107 (eO.mp w)))
                · have e3 : bC (oddN (eTog (S g) s x y) (k + 1)) = 1 := bC_t ((odd_t e5).mp c_183)
                  refine e_iconst dX8_sideOf_186 ?_
                  refine e_goto (tgt := 191) dX8_sideOf_187 rfl ?_
                  refine e_istore dX8_sideOf_191 rfl ?_
                  refine e_iinc dX8_sideOf_193 rfl ?_
                  refine e_goto (tgt := 6) dX8_sideOf_196 rfl ?_
                  first | exact e_loc [(8, .int (iN (k + 1 : Nat))), (7, .int (iN (bC (oddN (eTog (S g) s x y) (k + 1))))), (0, .ref m), (1, .int (iN g)), (2, .long (lI x)), (4, .long (lI y)), (6, .int (iN s))] ⟨rfl, by rw [e3]; rfl, rfl, rfl, rfl, rfl, rfl, trivial⟩ (ih (k + 1) (by omega) (fun j hj => if c : j < k then hno j c else by rw [show j = k by omega]; exact fun w => c_107 (eO.mp w))) | exact e_loc [(8, .int (iN (k + 1 : Nat))), (7, .int (iN (bC (oddN (eTog (S g) s x y) (k + 1))))), (0, .ref m), (1, .int (iN g)), (2, .long (lI x)), (4, .long (lI y)), (6, .int (iN s))] ⟨rfl, by rw [← bC_c (odd_f e5)]; rfl, rfl, rfl, rfl, rfl, rfl, trivial⟩ (ih (k + 1) (by omega) (fun j hj => if c : j < k then hno j c else by rw [show j = k by omega]; exact fun w => c_107 (eO.mp w)))
          · have e5 : ¬ eTog (S g) s x y k := fun w => (eT.mp w).1 c_138
            refine e_goto (tgt := 193) dX8_sideOf_141 rfl ?_
            refine e_iinc dX8_sideOf_193 rfl ?_
            refine e_goto (tgt := 6) dX8_sideOf_196 rfl ?_
            first | exact e_loc [(8, .int (iN (k + 1 : Nat))), (7, .int (iN (bC (oddN (eTog (S g) s x y) (k + 1))))), (0, .ref m), (1, .int (iN g)), (2, .long (lI x)), (4, .long (lI y)), (6, .int (iN s))] ⟨rfl, by rw [e3]; rfl, rfl, rfl, rfl, rfl, rfl, trivial⟩ (ih (k + 1) (by omega) (fun j hj => if c : j < k then hno j c else by rw [show j = k by omega]; exact fun w => c_107 (eO.mp w))) | exact e_loc [(8, .int (iN (k + 1 : Nat))), (7, .int (iN (bC (oddN (eTog (S g) s x y) (k + 1))))), (0, .ref m), (1, .int (iN g)), (2, .long (lI x)), (4, .long (lI y)), (6, .int (iN s))] ⟨rfl, by rw [← bC_c (odd_f e5)]; rfl, rfl, rfl, rfl, rfl, rfl, trivial⟩ (ih (k + 1) (by omega) (fun j hj => if c : j < k then hno j c else by rw [show j = k by omega]; exact fun w => c_107 (eO.mp w)))
      · refine e_iconst dX8_sideOf_120 ?_
        refine e_top (bP (y < ay)) (bP_t (Int.not_le.mp c_116)).symm ?_
        refine e_goto (tgt := 125) dX8_sideOf_121 rfl ?_
        refine e_lload dX8_sideOf_125 rfl ?_
        refine e_lload dX8_sideOf_127 rfl ?_
        refine e_lif_le (tgt := 137) ⟨by omega, by omega⟩ ⟨by omega, by omega⟩ dX8_sideOf_129 dX8_sideOf_130 rfl (fun c_129 => ?_) (fun c_129 => ?_)
        · refine e_iconst dX8_sideOf_137 ?_
          refine e_top (bP (y < by')) (bP_f (Int.not_lt.mpr c_129)).symm ?_
          refine e_icmpB_ne (tgt := 144) dX8_sideOf_138 rfl (fun c_138 => ?_) (fun c_138 => ?_)
          · have n0 : tw ax ay bx by' x y ≠ 0 := fun w => c_107 (cross_on c_138 w)
            have h0 := sg_0 (v := tw ax ay bx by' x y)
            have h1 : 0 < sg (tw ax ay bx by' x y) ↔ 0 < tw ax ay bx by' x y := sg_p
            refine e_lload dX8_sideOf_144 rfl ?_
            refine e_lload dX8_sideOf_146 rfl ?_
            refine e_lload dX8_sideOf_148 rfl ?_
            refine e_lload dX8_sideOf_150 rfl ?_
            refine e_lload_n dX8_sideOf_152 rfl ?_
            refine e_lload dX8_sideOf_153 rfl ?_
            refine e_pureS qcX8_132 (S_turns (twr ⟨by omega, by omega⟩ ⟨by omega, by omega⟩ ⟨by omega, by omega⟩ ⟨by omega, by omega⟩ hx hy)) rfl rfl rfl rfl dX8_sideOf_155 ?_
            refine e_istore dX8_sideOf_158 rfl ?_
            refine e_lload dX8_sideOf_160 rfl ?_
            refine e_lload dX8_sideOf_162 rfl ?_
            refine e_lif_le (tgt := 176) ⟨by omega, by omega⟩ ⟨by omega, by omega⟩ dX8_sideOf_164 dX8_sideOf_165 rfl (fun c_164 => ?_) (fun c_164 => ?_)
            · refine e_iload dX8_sideOf_176 rfl ?_
              refine e_if_ge (tgt := 193) ⟨by omega, by omega⟩ dX8_sideOf_178 rfl (fun c_178 => ?_) (fun c_178 => ?_)
              · have e5 : ¬ eTog (S g) s x y k := fun w => (fun q : 0 < tw ax ay bx by' x y => absurd ((eT.mp w).2.mp q) (by omega)) (h1.mp (by omega))
                refine e_iinc dX8_sideOf_193 rfl ?_
                refine e_goto (tgt := 6) dX8_sideOf_196 rfl ?_
                first | exact e_loc [(8, .int (iN (k + 1 : Nat))), (7, .int (iN (bC (oddN (eTog (S g) s x y) (k + 1))))), (0, .ref m), (1, .int (iN g)), (2, .long (lI x)), (4, .long (lI y)), (6, .int (iN s))] ⟨rfl, by rw [e3]; rfl, rfl, rfl, rfl, rfl, rfl, trivial⟩ (ih (k + 1) (by omega) (fun j hj => if c : j < k then hno j c else by rw [show j = k by omega]; exact fun w => c_107 (eO.mp w))) | exact e_loc [(8, .int (iN (k + 1 : Nat))), (7, .int (iN (bC (oddN (eTog (S g) s x y) (k + 1))))), (0, .ref m), (1, .int (iN g)), (2, .long (lI x)), (4, .long (lI y)), (6, .int (iN s))] ⟨rfl, by rw [← bC_c (odd_f e5)]; rfl, rfl, rfl, rfl, rfl, rfl, trivial⟩ (ih (k + 1) (by omega) (fun j hj => if c : j < k then hno j c else by rw [show j = k by omega]; exact fun w => c_107 (eO.mp w)))
              · have e5 : eTog (S g) s x y k := eT.mpr ⟨c_138, fun q => absurd (h1.mpr q) (by omega), fun q => absurd q (by omega)⟩
                refine e_iload dX8_sideOf_181 rfl ?_
                refine e_ifP_ne (tgt := 190) dX8_sideOf_183 rfl (fun c_183 => ?_) (fun c_183 => ?_)
                · have e3 : bC (oddN (eTog (S g) s x y) (k + 1)) = 0 := bC_f (fun w => ((odd_t e5).mpr w) c_183)
                  refine e_iconst dX8_sideOf_190 ?_
                  refine e_istore dX8_sideOf_191 rfl ?_
                  refine e_iinc dX8_sideOf_193 rfl ?_
                  refine e_goto (tgt := 6) dX8_sideOf_196 rfl ?_
                  first | exact e_loc [(8, .int (iN (k + 1 : Nat))), (7, .int (iN (bC (oddN (eTog (S g) s x y) (k + 1))))), (0, .ref m), (1, .int (iN g)), (2, .long (lI x)), (4, .long (lI y)), (6, .int (iN s))] ⟨rfl, by rw [e3]; rfl, rfl, rfl, rfl, rfl, rfl, trivial⟩ (ih (k + 1) (by omega) (fun j hj => if c : j < k then hno j c else by rw [show j = k by omega]; exact fun w => c_107 (eO.mp w))) | exact e_loc [(8, .int (iN (k + 1 : Nat))), (7, .int (iN (bC (oddN (eTog (S g) s x y) (k + 1))))), (0, .ref m), (1, .int (iN g)), (2, .long (lI x)), (4, .long (lI y)), (6, .int (iN s))] ⟨rfl, by rw [← bC_c (odd_f e5)]; rfl, rfl, rfl, rfl, rfl, rfl, trivial⟩ (ih (k + 1) (by omega) (fun j hj => if c : j < k then hno j c else by rw [show j = k by omega]; exact fun w => c_107 (eO.mp w)))
                · have e3 : bC (oddN (eTog (S g) s x y) (k + 1)) = 1 := bC_t ((odd_t e5).mp c_183)
                  refine e_iconst dX8_sideOf_186 ?_
                  refine e_goto (tgt := 191) dX8_sideOf_187 rfl ?_
                  refine e_istore dX8_sideOf_191 rfl ?_
                  refine e_iinc dX8_sideOf_193 rfl ?_
                  refine e_goto (tgt := 6) dX8_sideOf_196 rfl ?_
                  first | exact e_loc [(8, .int (iN (k + 1 : Nat))), (7, .int (iN (bC (oddN (eTog (S g) s x y) (k + 1))))), (0, .ref m), (1, .int (iN g)), (2, .long (lI x)), (4, .long (lI y)), (6, .int (iN s))] ⟨rfl, by rw [e3]; rfl, rfl, rfl, rfl, rfl, rfl, trivial⟩ (ih (k + 1) (by omega) (fun j hj => if c : j < k then hno j c else by rw [show j = k by omega]; exact fun w => c_107 (eO.mp w))) | exact e_loc [(8, .int (iN (k + 1 : Nat))), (7, .int (iN (bC (oddN (eTog (S g) s x y) (k + 1))))), (0, .ref m), (1, .int (iN g)), (2, .long (lI x)), (4, .long (lI y)), (6, .int (iN s))] ⟨rfl, by rw [← bC_c (odd_f e5)]; rfl, rfl, rfl, rfl, rfl, rfl, trivial⟩ (ih (k + 1) (by omega) (fun j hj => if c : j < k then hno j c else by rw [show j = k by omega]; exact fun w => c_107 (eO.mp w)))
            · refine e_iload dX8_sideOf_168 rfl ?_
              refine e_if_le (tgt := 193) ⟨by omega, by omega⟩ dX8_sideOf_170 rfl (fun c_170 => ?_) (fun c_170 => ?_)
              · have e5 : ¬ eTog (S g) s x y k := fun w => absurd (h1.mpr ((eT.mp w).2.mpr (Int.not_le.mp c_164))) (by omega)
                refine e_iinc dX8_sideOf_193 rfl ?_
                refine e_goto (tgt := 6) dX8_sideOf_196 rfl ?_
                first | exact e_loc [(8, .int (iN (k + 1 : Nat))), (7, .int (iN (bC (oddN (eTog (S g) s x y) (k + 1))))), (0, .ref m), (1, .int (iN g)), (2, .long (lI x)), (4, .long (lI y)), (6, .int (iN s))] ⟨rfl, by rw [e3]; rfl, rfl, rfl, rfl, rfl, rfl, trivial⟩ (ih (k + 1) (by omega) (fun j hj => if c : j < k then hno j c else by rw [show j = k by omega]; exact fun w => c_107 (eO.mp w))) | exact e_loc [(8, .int (iN (k + 1 : Nat))), (7, .int (iN (bC (oddN (eTog (S g) s x y) (k + 1))))), (0, .ref m), (1, .int (iN g)), (2, .long (lI x)), (4, .long (lI y)), (6, .int (iN s))] ⟨rfl, by rw [← bC_c (odd_f e5)]; rfl, rfl, rfl, rfl, rfl, rfl, trivial⟩ (ih (k + 1) (by omega) (fun j hj => if c : j < k then hno j c else by rw [show j = k by omega]; exact fun w => c_107 (eO.mp w)))
              · have e5 : eTog (S g) s x y k := eT.mpr ⟨c_138, fun _ => Int.not_le.mp c_164, fun _ => h1.mp (by omega)⟩
                refine e_goto (tgt := 181) dX8_sideOf_173 rfl ?_
                refine e_iload dX8_sideOf_181 rfl ?_
                refine e_ifP_ne (tgt := 190) dX8_sideOf_183 rfl (fun c_183 => ?_) (fun c_183 => ?_)
                · have e3 : bC (oddN (eTog (S g) s x y) (k + 1)) = 0 := bC_f (fun w => ((odd_t e5).mpr w) c_183)
                  refine e_iconst dX8_sideOf_190 ?_
                  refine e_istore dX8_sideOf_191 rfl ?_
                  refine e_iinc dX8_sideOf_193 rfl ?_
                  refine e_goto (tgt := 6) dX8_sideOf_196 rfl ?_
                  first | exact e_loc [(8, .int (iN (k + 1 : Nat))), (7, .int (iN (bC (oddN (eTog (S g) s x y) (k + 1))))), (0, .ref m), (1, .int (iN g)), (2, .long (lI x)), (4, .long (lI y)), (6, .int (iN s))] ⟨rfl, by rw [e3]; rfl, rfl, rfl, rfl, rfl, rfl, trivial⟩ (ih (k + 1) (by omega) (fun j hj => if c : j < k then hno j c else by rw [show j = k by omega]; exact fun w => c_107 (eO.mp w))) | exact e_loc [(8, .int (iN (k + 1 : Nat))), (7, .int (iN (bC (oddN (eTog (S g) s x y) (k + 1))))), (0, .ref m), (1, .int (iN g)), (2, .long (lI x)), (4, .long (lI y)), (6, .int (iN s))] ⟨rfl, by rw [← bC_c (odd_f e5)]; rfl, rfl, rfl, rfl, rfl, rfl, trivial⟩ (ih (k + 1) (by omega) (fun j hj => if c : j < k then hno j c else by rw [show j = k by omega]; exact fun w => c_107 (eO.mp w)))
                · have e3 : bC (oddN (eTog (S g) s x y) (k + 1)) = 1 := bC_t ((odd_t e5).mp c_183)
                  refine e_iconst dX8_sideOf_186 ?_
                  refine e_goto (tgt := 191) dX8_sideOf_187 rfl ?_
                  refine e_istore dX8_sideOf_191 rfl ?_
                  refine e_iinc dX8_sideOf_193 rfl ?_
                  refine e_goto (tgt := 6) dX8_sideOf_196 rfl ?_
                  first | exact e_loc [(8, .int (iN (k + 1 : Nat))), (7, .int (iN (bC (oddN (eTog (S g) s x y) (k + 1))))), (0, .ref m), (1, .int (iN g)), (2, .long (lI x)), (4, .long (lI y)), (6, .int (iN s))] ⟨rfl, by rw [e3]; rfl, rfl, rfl, rfl, rfl, rfl, trivial⟩ (ih (k + 1) (by omega) (fun j hj => if c : j < k then hno j c else by rw [show j = k by omega]; exact fun w => c_107 (eO.mp w))) | exact e_loc [(8, .int (iN (k + 1 : Nat))), (7, .int (iN (bC (oddN (eTog (S g) s x y) (k + 1))))), (0, .ref m), (1, .int (iN g)), (2, .long (lI x)), (4, .long (lI y)), (6, .int (iN s))] ⟨rfl, by rw [← bC_c (odd_f e5)]; rfl, rfl, rfl, rfl, rfl, rfl, trivial⟩ (ih (k + 1) (by omega) (fun j hj => if c : j < k then hno j c else by rw [show j = k by omega]; exact fun w => c_107 (eO.mp w)))
          · have e5 : ¬ eTog (S g) s x y k := fun w => (eT.mp w).1 c_138
            refine e_goto (tgt := 193) dX8_sideOf_141 rfl ?_
            refine e_iinc dX8_sideOf_193 rfl ?_
            refine e_goto (tgt := 6) dX8_sideOf_196 rfl ?_
            first | exact e_loc [(8, .int (iN (k + 1 : Nat))), (7, .int (iN (bC (oddN (eTog (S g) s x y) (k + 1))))), (0, .ref m), (1, .int (iN g)), (2, .long (lI x)), (4, .long (lI y)), (6, .int (iN s))] ⟨rfl, by rw [e3]; rfl, rfl, rfl, rfl, rfl, rfl, trivial⟩ (ih (k + 1) (by omega) (fun j hj => if c : j < k then hno j c else by rw [show j = k by omega]; exact fun w => c_107 (eO.mp w))) | exact e_loc [(8, .int (iN (k + 1 : Nat))), (7, .int (iN (bC (oddN (eTog (S g) s x y) (k + 1))))), (0, .ref m), (1, .int (iN g)), (2, .long (lI x)), (4, .long (lI y)), (6, .int (iN s))] ⟨rfl, by rw [← bC_c (odd_f e5)]; rfl, rfl, rfl, rfl, rfl, rfl, trivial⟩ (ih (k + 1) (by omega) (fun j hj => if c : j < k then hno j c else by rw [show j = k by omega]; exact fun w => c_107 (eO.mp w)))
        · refine e_iconst dX8_sideOf_133 ?_
          refine e_top (bP (y < by')) (bP_t (Int.not_le.mp c_129)).symm ?_
          refine e_goto (tgt := 138) dX8_sideOf_134 rfl ?_
          refine e_icmpB_ne (tgt := 144) dX8_sideOf_138 rfl (fun c_138 => ?_) (fun c_138 => ?_)
          · have n0 : tw ax ay bx by' x y ≠ 0 := fun w => c_107 (cross_on c_138 w)
            have h0 := sg_0 (v := tw ax ay bx by' x y)
            have h1 : 0 < sg (tw ax ay bx by' x y) ↔ 0 < tw ax ay bx by' x y := sg_p
            refine e_lload dX8_sideOf_144 rfl ?_
            refine e_lload dX8_sideOf_146 rfl ?_
            refine e_lload dX8_sideOf_148 rfl ?_
            refine e_lload dX8_sideOf_150 rfl ?_
            refine e_lload_n dX8_sideOf_152 rfl ?_
            refine e_lload dX8_sideOf_153 rfl ?_
            refine e_pureS qcX8_132 (S_turns (twr ⟨by omega, by omega⟩ ⟨by omega, by omega⟩ ⟨by omega, by omega⟩ ⟨by omega, by omega⟩ hx hy)) rfl rfl rfl rfl dX8_sideOf_155 ?_
            refine e_istore dX8_sideOf_158 rfl ?_
            refine e_lload dX8_sideOf_160 rfl ?_
            refine e_lload dX8_sideOf_162 rfl ?_
            refine e_lif_le (tgt := 176) ⟨by omega, by omega⟩ ⟨by omega, by omega⟩ dX8_sideOf_164 dX8_sideOf_165 rfl (fun c_164 => ?_) (fun c_164 => ?_)
            · refine e_iload dX8_sideOf_176 rfl ?_
              refine e_if_ge (tgt := 193) ⟨by omega, by omega⟩ dX8_sideOf_178 rfl (fun c_178 => ?_) (fun c_178 => ?_)
              · have e5 : ¬ eTog (S g) s x y k := fun w => (fun q : 0 < tw ax ay bx by' x y => absurd ((eT.mp w).2.mp q) (by omega)) (h1.mp (by omega))
                refine e_iinc dX8_sideOf_193 rfl ?_
                refine e_goto (tgt := 6) dX8_sideOf_196 rfl ?_
                first | exact e_loc [(8, .int (iN (k + 1 : Nat))), (7, .int (iN (bC (oddN (eTog (S g) s x y) (k + 1))))), (0, .ref m), (1, .int (iN g)), (2, .long (lI x)), (4, .long (lI y)), (6, .int (iN s))] ⟨rfl, by rw [e3]; rfl, rfl, rfl, rfl, rfl, rfl, trivial⟩ (ih (k + 1) (by omega) (fun j hj => if c : j < k then hno j c else by rw [show j = k by omega]; exact fun w => c_107 (eO.mp w))) | exact e_loc [(8, .int (iN (k + 1 : Nat))), (7, .int (iN (bC (oddN (eTog (S g) s x y) (k + 1))))), (0, .ref m), (1, .int (iN g)), (2, .long (lI x)), (4, .long (lI y)), (6, .int (iN s))] ⟨rfl, by rw [← bC_c (odd_f e5)]; rfl, rfl, rfl, rfl, rfl, rfl, trivial⟩ (ih (k + 1) (by omega) (fun j hj => if c : j < k then hno j c else by rw [show j = k by omega]; exact fun w => c_107 (eO.mp w)))
              · have e5 : eTog (S g) s x y k := eT.mpr ⟨c_138, fun q => absurd (h1.mpr q) (by omega), fun q => absurd q (by omega)⟩
                refine e_iload dX8_sideOf_181 rfl ?_
                refine e_ifP_ne (tgt := 190) dX8_sideOf_183 rfl (fun c_183 => ?_) (fun c_183 => ?_)
                · have e3 : bC (oddN (eTog (S g) s x y) (k + 1)) = 0 := bC_f (fun w => ((odd_t e5).mpr w) c_183)
                  refine e_iconst dX8_sideOf_190 ?_
                  refine e_istore dX8_sideOf_191 rfl ?_
                  refine e_iinc dX8_sideOf_193 rfl ?_
                  refine e_goto (tgt := 6) dX8_sideOf_196 rfl ?_
                  first | exact e_loc [(8, .int (iN (k + 1 : Nat))), (7, .int (iN (bC (oddN (eTog (S g) s x y) (k + 1))))), (0, .ref m), (1, .int (iN g)), (2, .long (lI x)), (4, .long (lI y)), (6, .int (iN s))] ⟨rfl, by rw [e3]; rfl, rfl, rfl, rfl, rfl, rfl, trivial⟩ (ih (k + 1) (by omega) (fun j hj => if c : j < k then hno j c else by rw [show j = k by omega]; exact fun w => c_107 (eO.mp w))) | exact e_loc [(8, .int (iN (k + 1 : Nat))), (7, .int (iN (bC (oddN (eTog (S g) s x y) (k + 1))))), (0, .ref m), (1, .int (iN g)), (2, .long (lI x)), (4, .long (lI y)), (6, .int (iN s))] ⟨rfl, by rw [← bC_c (odd_f e5)]; rfl, rfl, rfl, rfl, rfl, rfl, trivial⟩ (ih (k + 1) (by omega) (fun j hj => if c : j < k then hno j c else by rw [show j = k by omega]; exact fun w => c_107 (eO.mp w)))
                · have e3 : bC (oddN (eTog (S g) s x y) (k + 1)) = 1 := bC_t ((odd_t e5).mp c_183)
                  refine e_iconst dX8_sideOf_186 ?_
                  refine e_goto (tgt := 191) dX8_sideOf_187 rfl ?_
                  refine e_istore dX8_sideOf_191 rfl ?_
                  refine e_iinc dX8_sideOf_193 rfl ?_
                  refine e_goto (tgt := 6) dX8_sideOf_196 rfl ?_
                  first | exact e_loc [(8, .int (iN (k + 1 : Nat))), (7, .int (iN (bC (oddN (eTog (S g) s x y) (k + 1))))), (0, .ref m), (1, .int (iN g)), (2, .long (lI x)), (4, .long (lI y)), (6, .int (iN s))] ⟨rfl, by rw [e3]; rfl, rfl, rfl, rfl, rfl, rfl, trivial⟩ (ih (k + 1) (by omega) (fun j hj => if c : j < k then hno j c else by rw [show j = k by omega]; exact fun w => c_107 (eO.mp w))) | exact e_loc [(8, .int (iN (k + 1 : Nat))), (7, .int (iN (bC (oddN (eTog (S g) s x y) (k + 1))))), (0, .ref m), (1, .int (iN g)), (2, .long (lI x)), (4, .long (lI y)), (6, .int (iN s))] ⟨rfl, by rw [← bC_c (odd_f e5)]; rfl, rfl, rfl, rfl, rfl, rfl, trivial⟩ (ih (k + 1) (by omega) (fun j hj => if c : j < k then hno j c else by rw [show j = k by omega]; exact fun w => c_107 (eO.mp w)))
            · refine e_iload dX8_sideOf_168 rfl ?_
              refine e_if_le (tgt := 193) ⟨by omega, by omega⟩ dX8_sideOf_170 rfl (fun c_170 => ?_) (fun c_170 => ?_)
              · have e5 : ¬ eTog (S g) s x y k := fun w => absurd (h1.mpr ((eT.mp w).2.mpr (Int.not_le.mp c_164))) (by omega)
                refine e_iinc dX8_sideOf_193 rfl ?_
                refine e_goto (tgt := 6) dX8_sideOf_196 rfl ?_
                first | exact e_loc [(8, .int (iN (k + 1 : Nat))), (7, .int (iN (bC (oddN (eTog (S g) s x y) (k + 1))))), (0, .ref m), (1, .int (iN g)), (2, .long (lI x)), (4, .long (lI y)), (6, .int (iN s))] ⟨rfl, by rw [e3]; rfl, rfl, rfl, rfl, rfl, rfl, trivial⟩ (ih (k + 1) (by omega) (fun j hj => if c : j < k then hno j c else by rw [show j = k by omega]; exact fun w => c_107 (eO.mp w))) | exact e_loc [(8, .int (iN (k + 1 : Nat))), (7, .int (iN (bC (oddN (eTog (S g) s x y) (k + 1))))), (0, .ref m), (1, .int (iN g)), (2, .long (lI x)), (4, .long (lI y)), (6, .int (iN s))] ⟨rfl, by rw [← bC_c (odd_f e5)]; rfl, rfl, rfl, rfl, rfl, rfl, trivial⟩ (ih (k + 1) (by omega) (fun j hj => if c : j < k then hno j c else by rw [show j = k by omega]; exact fun w => c_107 (eO.mp w)))
              · have e5 : eTog (S g) s x y k := eT.mpr ⟨c_138, fun _ => Int.not_le.mp c_164, fun _ => h1.mp (by omega)⟩
                refine e_goto (tgt := 181) dX8_sideOf_173 rfl ?_
                refine e_iload dX8_sideOf_181 rfl ?_
                refine e_ifP_ne (tgt := 190) dX8_sideOf_183 rfl (fun c_183 => ?_) (fun c_183 => ?_)
                · have e3 : bC (oddN (eTog (S g) s x y) (k + 1)) = 0 := bC_f (fun w => ((odd_t e5).mpr w) c_183)
                  refine e_iconst dX8_sideOf_190 ?_
                  refine e_istore dX8_sideOf_191 rfl ?_
                  refine e_iinc dX8_sideOf_193 rfl ?_
                  refine e_goto (tgt := 6) dX8_sideOf_196 rfl ?_
                  first | exact e_loc [(8, .int (iN (k + 1 : Nat))), (7, .int (iN (bC (oddN (eTog (S g) s x y) (k + 1))))), (0, .ref m), (1, .int (iN g)), (2, .long (lI x)), (4, .long (lI y)), (6, .int (iN s))] ⟨rfl, by rw [e3]; rfl, rfl, rfl, rfl, rfl, rfl, trivial⟩ (ih (k + 1) (by omega) (fun j hj => if c : j < k then hno j c else by rw [show j = k by omega]; exact fun w => c_107 (eO.mp w))) | exact e_loc [(8, .int (iN (k + 1 : Nat))), (7, .int (iN (bC (oddN (eTog (S g) s x y) (k + 1))))), (0, .ref m), (1, .int (iN g)), (2, .long (lI x)), (4, .long (lI y)), (6, .int (iN s))] ⟨rfl, by rw [← bC_c (odd_f e5)]; rfl, rfl, rfl, rfl, rfl, rfl, trivial⟩ (ih (k + 1) (by omega) (fun j hj => if c : j < k then hno j c else by rw [show j = k by omega]; exact fun w => c_107 (eO.mp w)))
                · have e3 : bC (oddN (eTog (S g) s x y) (k + 1)) = 1 := bC_t ((odd_t e5).mp c_183)
                  refine e_iconst dX8_sideOf_186 ?_
                  refine e_goto (tgt := 191) dX8_sideOf_187 rfl ?_
                  refine e_istore dX8_sideOf_191 rfl ?_
                  refine e_iinc dX8_sideOf_193 rfl ?_
                  refine e_goto (tgt := 6) dX8_sideOf_196 rfl ?_
                  first | exact e_loc [(8, .int (iN (k + 1 : Nat))), (7, .int (iN (bC (oddN (eTog (S g) s x y) (k + 1))))), (0, .ref m), (1, .int (iN g)), (2, .long (lI x)), (4, .long (lI y)), (6, .int (iN s))] ⟨rfl, by rw [e3]; rfl, rfl, rfl, rfl, rfl, rfl, trivial⟩ (ih (k + 1) (by omega) (fun j hj => if c : j < k then hno j c else by rw [show j = k by omega]; exact fun w => c_107 (eO.mp w))) | exact e_loc [(8, .int (iN (k + 1 : Nat))), (7, .int (iN (bC (oddN (eTog (S g) s x y) (k + 1))))), (0, .ref m), (1, .int (iN g)), (2, .long (lI x)), (4, .long (lI y)), (6, .int (iN s))] ⟨rfl, by rw [← bC_c (odd_f e5)]; rfl, rfl, rfl, rfl, rfl, rfl, trivial⟩ (ih (k + 1) (by omega) (fun j hj => if c : j < k then hno j c else by rw [show j = k by omega]; exact fun w => c_107 (eO.mp w)))
          · have e5 : ¬ eTog (S g) s x y k := fun w => (eT.mp w).1 c_138
            refine e_goto (tgt := 193) dX8_sideOf_141 rfl ?_
            refine e_iinc dX8_sideOf_193 rfl ?_
            refine e_goto (tgt := 6) dX8_sideOf_196 rfl ?_
            first | exact e_loc [(8, .int (iN (k + 1 : Nat))), (7, .int (iN (bC (oddN (eTog (S g) s x y) (k + 1))))), (0, .ref m), (1, .int (iN g)), (2, .long (lI x)), (4, .long (lI y)), (6, .int (iN s))] ⟨rfl, by rw [e3]; rfl, rfl, rfl, rfl, rfl, rfl, trivial⟩ (ih (k + 1) (by omega) (fun j hj => if c : j < k then hno j c else by rw [show j = k by omega]; exact fun w => c_107 (eO.mp w))) | exact e_loc [(8, .int (iN (k + 1 : Nat))), (7, .int (iN (bC (oddN (eTog (S g) s x y) (k + 1))))), (0, .ref m), (1, .int (iN g)), (2, .long (lI x)), (4, .long (lI y)), (6, .int (iN s))] ⟨rfl, by rw [← bC_c (odd_f e5)]; rfl, rfl, rfl, rfl, rfl, rfl, trivial⟩ (ih (k + 1) (by omega) (fun j hj => if c : j < k then hno j c else by rw [show j = k by omega]; exact fun w => c_107 (eO.mp w)))
    · refine e_iconst dX8_sideOf_110 ?_
      refine e_iret rfl dX8_sideOf_111 (by decide) (by decide) ?_
      exact ⟨by rw [wI_0 hk (eO.mpr c_107)], rfl, rfl⟩
set_option maxRecDepth 20000 in
theorem S_sideOf (X : mdX G sc ar m h0 h) (hS : mdS ar S) {g : Nat} (hg : g < 4) {s x y : Int} (hs : 0 ≤ s ∧ s ≤ 2) (hx : b31 x) (hy : b31 y) : Pure G mX8_sideOf [.ref m, .int (iN g), .long (lI x), .long (lI y), .int (iN s)] h (.int (iN (wI (S g) s x y))) := by
  intro z
  refine run_of rfl plX8 rfl ?_
  refine e_iconst dX8_sideOf_0 ?_
  refine e_istore dX8_sideOf_1 rfl ?_
  refine e_iconst dX8_sideOf_3 ?_
  refine e_istore dX8_sideOf_4 rfl ?_
  exact e_loc [(8, .int (iN (0 : Nat))), (7, .int (iN (bC (oddN (eTog (S g) s x y) (0))))), (0, .ref m), (1, .int (iN g)), (2, .long (lI x)), (4, .long (lI y)), (6, .int (iN s))] ⟨rfl, by rw [show bC (oddN (eTog (S g) s x y) (0)) = 0 from bC_f (fun w => w)]; rfl, rfl, rfl, rfl, rfl, rfl, trivial⟩ (so_loop X hS hg hs hx hy _ 0 (Nat.zero_add _) (fun j hj => absurd hj (Nat.not_lt_zero _)))
end MELEVEN
