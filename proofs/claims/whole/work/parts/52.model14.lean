/-! The reference: what is seen -/
abbrev pas3 (L : PL) (a c i : Nat) : Prop := pas (pX L a) (pY L a) (pX L c) (pY L c) (pX L i) (pY L i) (nX L i) (nY L i)
/-- how far a corner is from a -/
abbrev offN (L : PL) (a i : Nat) : Int := ((pX L i - pX L a).natAbs : Int) + ((pY L i - pY L a).natAbs : Int)
abbrev nxO (L : PL) (a : Nat) (c : Nat) : Option Nat → Prop
  | none => True
  | some q => offN L a c < offN L a q
def nxU (L : PL) (a c k : Nat) (o : Nat) (q : Option Nat) : Prop := on3 L a c L o ∧ offN L a k < offN L a o ∧ nxO L a o q
/-- the next corner on the stretch, behind k, among the first n -/
noncomputable def nxN (L : PL) (a c k : Nat) : Nat → Option Nat
  | 0 => none
  | o + 1 => cif (nxU L a c k o (nxN L a c k o)) (some o) (nxN L a c k o)
theorem nxN_lt {L : PL} {a c k : Nat} : ∀ {n q : Nat}, nxN L a c k n = some q → q < n
  | 0, _, h => by cases h
  | n + 1, q, h => by
    by_cases w : nxU L a c k n (nxN L a c k n)
    · rw [show nxN L a c k (n + 1) = some n from cif_t w] at h
      cases h
      omega
    · rw [show nxN L a c k (n + 1) = nxN L a c k n from cif_f w] at h
      have := nxN_lt h
      omega
def enc (g : Nat) : Option Nat → Int
  | none => -1
  | some q => 16 * (g : Int) + (q : Int)
/-- whether the stretch from k to the next corner on it is outside -/
def outM (L : PL) (a c k : Nat) : Prop := on3 L a c L k ∧ ∃ q, nxN L a c k L.length = some q ∧ wM L k q < 0
def dsM (L : PL) (a c : Nat) : Prop := (∀ k, k < L.length → ¬ pas3 L a c k) ∧ ∀ k, k < L.length → ¬ outM L a c k
section MFOURTEEN
variable {G : g_X} {sc sc0 : Nat → Int} {ar : Nat → Nat → Int} {m : Nat} {h0 h : g_hp} {P E : PL} {S : Nat → PL} {b : Int} {P2 E2 : PL} {S2 : Nat → PL} {F : PL}
set_option maxRecDepth 20000 in
theorem S_off (X : mdX G sc ar m h0 h) (hS : mdS ar S) {g : Nat} (hg : g < 4) {a q : Nat} (ha : a < (S g).length) (hq : q < (S g).length) (h17 : sc 17 = pX (S g) a) (h18 : sc 18 = pY (S g) a) : Pure G mX8_off [.ref m, .int (iN (16 * (g : Int) + (q : Int)))] h (.int (iN (offN (S g) a q))) := by
  obtain ⟨s1, s2, s3, s4⟩ := hS g hg
  have b1 := s3.at ha
  have b2 := s3.at hq
  intro z
  refine run_of rfl plX8 rfl ?_
  refine e_aload_n dX8_off_0 rfl ?_
  refine e_getf fX8_42 X.obj rfl dX8_off_1 ?_
  refine e_iload_n dX8_off_4 rfl ?_
  refine e_ial X.a9 (by omega) (by omega) rfl ((congrArg _ (show (16 * ((g : Nat) : Int) + ((q : Nat) : Int)).toNat = 16 * g + q by omega)).trans (s4 q hq).1) dX8_off_5 ?_
  refine e_aload_n dX8_off_6 rfl ?_
  refine e_getf fX8_198 X.obj rfl dX8_off_7 ?_
  rw [h17]
  refine e_isub dX8_off_10 ?_
  refine e_pureS qcX8_100 (S_amount (v := pX (S g) q - pX (S g) a) ⟨by omega, by omega⟩) rfl rfl rfl rfl dX8_off_11 ?_
  refine e_aload_n dX8_off_14 rfl ?_
  refine e_getf fX8_45 X.obj rfl dX8_off_15 ?_
  refine e_iload_n dX8_off_18 rfl ?_
  refine e_ial X.a10 (by omega) (by omega) rfl ((congrArg _ (show (16 * ((g : Nat) : Int) + ((q : Nat) : Int)).toNat = 16 * g + q by omega)).trans (s4 q hq).2) dX8_off_19 ?_
  refine e_aload_n dX8_off_20 rfl ?_
  refine e_getf fX8_201 X.obj rfl dX8_off_21 ?_
  rw [h18]
  refine e_isub dX8_off_24 ?_
  refine e_pureS qcX8_100 (S_amount (v := pY (S g) q - pY (S g) a) ⟨by omega, by omega⟩) rfl rfl rfl rfl dX8_off_25 ?_
  refine e_iadd dX8_off_28 ?_
  refine e_iret rfl dX8_off_29 (by decide) (by decide) ?_
  exact ⟨rfl, rfl, rfl⟩
theorem offN_bd {L : PL} (h : okP L) {a i : Nat} (ha : a < L.length) (hi : i < L.length) : 0 ≤ offN L a i ∧ offN L a i ≤ 800 := by
  have b1 := h.at ha
  have b2 := h.at hi
  show 0 ≤ ((_ : Nat) : Int) + ((_ : Nat) : Int) ∧ ((_ : Nat) : Int) + ((_ : Nat) : Int) ≤ 800
  omega
set_option maxRecDepth 20000 in
theorem ds_next {Z : g_Z} {z : Option Nat} {g a c k : Nat} {sc1 : Nat → Int} (X : mdX G sc1 ar m h0 h) (hS : mdS ar S) (hg : g < 4) (ha : a < (S g).length) (hc : c < (S g).length) (hk : k < (S g).length) (hv : sc1 17 = pX (S g) a ∧ sc1 18 = pY (S g) a ∧ sc1 19 = pX (S g) c ∧ sc1 20 = pY (S g) c) (kk : Ev (g_B G mX8_doesSee 0 0 Z) 0 0 z h 314 [(8, .int (iN (enc g (nxN (S g) a c k (S g).length)))), (7, .int (iN (16 * (g : Int) + (k : Int)))), (6, .int (iN (k : Nat))), (0, .ref m), (1, .int (iN g))] []) : ∀ (n o : Nat), o + n = (S g).length → Ev (g_B G mX8_doesSee 0 0 Z) 0 0 z h 203 [(9, .int (iN (o : Nat))), (8, .int (iN (enc g (nxN (S g) a c k (o))))), (7, .int (iN (16 * (g : Int) + (k : Int)))), (6, .int (iN (k : Nat))), (0, .ref m), (1, .int (iN g))] [] := by
  have hS9 := hS
  obtain ⟨v1, v2, v3, v4⟩ := hv
  obtain ⟨s1, s2, s3, s4⟩ := hS g hg
  have b1 := s3.at ha
  have b2 := s3.at hc
  intro n
  induction n with
  | zero =>
    intro o hon
    have e9 : o = (S g).length := by omega
    rw [e9]
    refine e_iload dX8_doesSee_203 rfl ?_
    refine e_aload_n dX8_doesSee_205 rfl ?_
    refine e_getf fX8_48 X.obj rfl dX8_doesSee_206 ?_
    refine e_iload_n dX8_doesSee_209 rfl ?_
    refine e_ial X.a11 (by omega) (by omega) rfl s1 dX8_doesSee_210 ?_
    refine e_icmp_ge (tgt := 314) ⟨by omega, by omega⟩ ⟨by omega, by omega⟩ dX8_doesSee_211 rfl (fun c_211 => ?_) (fun c_211 => absurd (by omega) c_211)
    exact e_loc [(8, .int (iN (enc g (nxN (S g) a c k (S g).length)))), (7, .int (iN (16 * (g : Int) + (k : Int)))), (6, .int (iN (k : Nat))), (0, .ref m), (1, .int (iN g))] ⟨rfl, rfl, rfl, rfl, rfl, trivial⟩ kk
  | succ n ih =>
    intro o hon
    have ho : o < (S g).length := by omega
    have b3 := s3.at ho
    have d1 := offN_bd s3 ha ho
    have d2 := offN_bd s3 ha hk
    have e6 : nxN (S g) a c k (o + 1) = cif (nxU (S g) a c k o (nxN (S g) a c k o)) (some o) (nxN (S g) a c k o) := rfl
    cases hq : nxN (S g) a c k o with
    | none =>
      rw [hq] at e6
      refine (show Ev _ 0 0 z h 203 [(9, .int (iN (o : Nat))), (8, .int (iN (-1))), (7, .int (iN (16 * (g : Int) + (k : Int)))), (6, .int (iN (k : Nat))), (0, .ref m), (1, .int (iN g))] [] from ?_)
      refine e_iload dX8_doesSee_203 rfl ?_
      refine e_aload_n dX8_doesSee_205 rfl ?_
      refine e_getf fX8_48 X.obj rfl dX8_doesSee_206 ?_
      refine e_iload_n dX8_doesSee_209 rfl ?_
      refine e_ial X.a11 (by omega) (by omega) rfl s1 dX8_doesSee_210 ?_
      refine e_icmp_ge (tgt := 314) ⟨by omega, by omega⟩ ⟨by omega, by omega⟩ dX8_doesSee_211 rfl (fun c_211 => absurd c_211 (by omega)) (fun c_211 => ?_)
      refine e_bipush dX8_doesSee_214 (by decide) ?_
      refine e_iload_n dX8_doesSee_216 rfl ?_
      refine e_imul dX8_doesSee_217 ?_
      refine e_iload dX8_doesSee_218 rfl ?_
      refine e_iadd dX8_doesSee_220 ?_
      refine e_istore dX8_doesSee_221 rfl ?_
      refine e_aload_n dX8_doesSee_223 rfl ?_
      refine e_getf fX8_198 X.obj rfl dX8_doesSee_224 ?_
      rw [v1]
      refine e_i2l ⟨by omega, by omega⟩ dX8_doesSee_227 ?_
      refine e_aload_n dX8_doesSee_228 rfl ?_
      refine e_getf fX8_201 X.obj rfl dX8_doesSee_229 ?_
      rw [v2]
      refine e_i2l ⟨by omega, by omega⟩ dX8_doesSee_232 ?_
      refine e_aload_n dX8_doesSee_233 rfl ?_
      refine e_getf fX8_204 X.obj rfl dX8_doesSee_234 ?_
      rw [v3]
      refine e_i2l ⟨by omega, by omega⟩ dX8_doesSee_237 ?_
      refine e_aload_n dX8_doesSee_238 rfl ?_
      refine e_getf fX8_207 X.obj rfl dX8_doesSee_239 ?_
      rw [v4]
      refine e_i2l ⟨by omega, by omega⟩ dX8_doesSee_242 ?_
      refine e_aload_n dX8_doesSee_243 rfl ?_
      refine e_getf fX8_42 X.obj rfl dX8_doesSee_244 ?_
      refine e_iload dX8_doesSee_247 rfl ?_
      refine e_ial X.a9 (by omega) (by omega) rfl ((congrArg _ (show (16 * ((g : Nat) : Int) + ((o : Nat) : Int)).toNat = 16 * g + o by omega)).trans (s4 o ho).1) dX8_doesSee_249 ?_
      refine e_i2l ⟨by omega, by omega⟩ dX8_doesSee_250 ?_
      refine e_aload_n dX8_doesSee_251 rfl ?_
      refine e_getf fX8_45 X.obj rfl dX8_doesSee_252 ?_
      refine e_iload dX8_doesSee_255 rfl ?_
      refine e_ial X.a10 (by omega) (by omega) rfl ((congrArg _ (show (16 * ((g : Nat) : Int) + ((o : Nat) : Int)).toNat = 16 * g + o by omega)).trans (s4 o ho).2) dX8_doesSee_257 ?_
      refine e_i2l ⟨by omega, by omega⟩ dX8_doesSee_258 ?_
      refine e_pureS qcX8_169 (S_misOn ⟨by omega, by omega⟩ ⟨by omega, by omega⟩ ⟨by omega, by omega⟩ ⟨by omega, by omega⟩ ⟨by omega, by omega⟩ ⟨by omega, by omega⟩ ) rfl rfl rfl rfl dX8_doesSee_259 ?_
      refine e_ifP_eq (tgt := 308) dX8_doesSee_262 rfl (fun c_262 => ?_) (fun c_262 => ?_)
      · have e5 : nxN (S g) a c k (o + 1) = none := e6.trans (cif_f (fun w => c_262 w.1))
        refine e_iinc dX8_doesSee_308 rfl ?_
        refine e_goto (tgt := 203) dX8_doesSee_311 rfl ?_
        exact e_loc [(9, .int (iN (o + 1 : Nat))), (8, .int (iN (enc g (nxN (S g) a c k (o + 1))))), (7, .int (iN (16 * (g : Int) + (k : Int)))), (6, .int (iN (k : Nat))), (0, .ref m), (1, .int (iN g))] ⟨rfl, by rw [e5]; rfl, rfl, rfl, rfl, rfl, trivial⟩ (ih (o + 1) (by omega))
      · refine e_aload_n dX8_doesSee_265 rfl ?_
        refine e_iload dX8_doesSee_266 rfl ?_
        refine e_pureV qcX8_272 X.obj rfl rfl (S_off X hS9 hg ha ho v1 v2) rfl rfl rfl rfl dX8_doesSee_268 ?_
        refine e_aload_n dX8_doesSee_271 rfl ?_
        refine e_iload dX8_doesSee_272 rfl ?_
        refine e_pureV qcX8_272 X.obj rfl rfl (S_off X hS9 hg ha hk v1 v2) rfl rfl rfl rfl dX8_doesSee_274 ?_
        refine e_icmp_gt (tgt := 283) ⟨by omega, by omega⟩ ⟨by omega, by omega⟩ dX8_doesSee_277 rfl (fun c_277 => ?_) (fun c_277 => ?_)
        · refine e_iload dX8_doesSee_283 rfl ?_
          refine e_iconst dX8_doesSee_285 ?_
          refine e_icmp_eq (tgt := 304) (x := -1) (y := -1) ⟨by decide, by decide⟩ ⟨by decide, by decide⟩ dX8_doesSee_286 rfl (fun c_286 => ?_) (fun c_286 => absurd rfl c_286)
          have e5 : nxN (S g) a c k (o + 1) = some o := e6.trans (cif_t ⟨c_262, c_277, trivial⟩)
          refine e_iload dX8_doesSee_304 rfl ?_
          refine e_istore dX8_doesSee_306 rfl ?_
          refine e_iinc dX8_doesSee_308 rfl ?_
          refine e_goto (tgt := 203) dX8_doesSee_311 rfl ?_
          exact e_loc [(9, .int (iN (o + 1 : Nat))), (8, .int (iN (enc g (nxN (S g) a c k (o + 1))))), (7, .int (iN (16 * (g : Int) + (k : Int)))), (6, .int (iN (k : Nat))), (0, .ref m), (1, .int (iN g))] ⟨rfl, by rw [e5]; rfl, rfl, rfl, rfl, rfl, trivial⟩ (ih (o + 1) (by omega))
        · have e5 : nxN (S g) a c k (o + 1) = none := e6.trans (cif_f (fun w => absurd w.2.1 (Int.not_lt.mpr (Int.not_lt.mp c_277))))
          refine e_goto (tgt := 308) dX8_doesSee_280 rfl ?_
          refine e_iinc dX8_doesSee_308 rfl ?_
          refine e_goto (tgt := 203) dX8_doesSee_311 rfl ?_
          exact e_loc [(9, .int (iN (o + 1 : Nat))), (8, .int (iN (enc g (nxN (S g) a c k (o + 1))))), (7, .int (iN (16 * (g : Int) + (k : Int)))), (6, .int (iN (k : Nat))), (0, .ref m), (1, .int (iN g))] ⟨rfl, by rw [e5]; rfl, rfl, rfl, rfl, rfl, trivial⟩ (ih (o + 1) (by omega))
    | some q =>
      have hq2 := nxN_lt hq
      have hq3 : q < (S g).length := by omega
      have d3 := offN_bd s3 ha hq3
      rw [hq] at e6
      refine (show Ev _ 0 0 z h 203 [(9, .int (iN (o : Nat))), (8, .int (iN (16 * (g : Int) + (q : Int)))), (7, .int (iN (16 * (g : Int) + (k : Int)))), (6, .int (iN (k : Nat))), (0, .ref m), (1, .int (iN g))] [] from ?_)
      refine e_iload dX8_doesSee_203 rfl ?_
      refine e_aload_n dX8_doesSee_205 rfl ?_
      refine e_getf fX8_48 X.obj rfl dX8_doesSee_206 ?_
      refine e_iload_n dX8_doesSee_209 rfl ?_
      refine e_ial X.a11 (by omega) (by omega) rfl s1 dX8_doesSee_210 ?_
      refine e_icmp_ge (tgt := 314) ⟨by omega, by omega⟩ ⟨by omega, by omega⟩ dX8_doesSee_211 rfl (fun c_211 => absurd c_211 (by omega)) (fun c_211 => ?_)
      refine e_bipush dX8_doesSee_214 (by decide) ?_
      refine e_iload_n dX8_doesSee_216 rfl ?_
      refine e_imul dX8_doesSee_217 ?_
      refine e_iload dX8_doesSee_218 rfl ?_
      refine e_iadd dX8_doesSee_220 ?_
      refine e_istore dX8_doesSee_221 rfl ?_
      refine e_aload_n dX8_doesSee_223 rfl ?_
      refine e_getf fX8_198 X.obj rfl dX8_doesSee_224 ?_
      rw [v1]
      refine e_i2l ⟨by omega, by omega⟩ dX8_doesSee_227 ?_
      refine e_aload_n dX8_doesSee_228 rfl ?_
      refine e_getf fX8_201 X.obj rfl dX8_doesSee_229 ?_
      rw [v2]
      refine e_i2l ⟨by omega, by omega⟩ dX8_doesSee_232 ?_
      refine e_aload_n dX8_doesSee_233 rfl ?_
      refine e_getf fX8_204 X.obj rfl dX8_doesSee_234 ?_
      rw [v3]
      refine e_i2l ⟨by omega, by omega⟩ dX8_doesSee_237 ?_
      refine e_aload_n dX8_doesSee_238 rfl ?_
      refine e_getf fX8_207 X.obj rfl dX8_doesSee_239 ?_
      rw [v4]
      refine e_i2l ⟨by omega, by omega⟩ dX8_doesSee_242 ?_
      refine e_aload_n dX8_doesSee_243 rfl ?_
      refine e_getf fX8_42 X.obj rfl dX8_doesSee_244 ?_
      refine e_iload dX8_doesSee_247 rfl ?_
      refine e_ial X.a9 (by omega) (by omega) rfl ((congrArg _ (show (16 * ((g : Nat) : Int) + ((o : Nat) : Int)).toNat = 16 * g + o by omega)).trans (s4 o ho).1) dX8_doesSee_249 ?_
      refine e_i2l ⟨by omega, by omega⟩ dX8_doesSee_250 ?_
      refine e_aload_n dX8_doesSee_251 rfl ?_
      refine e_getf fX8_45 X.obj rfl dX8_doesSee_252 ?_
      refine e_iload dX8_doesSee_255 rfl ?_
      refine e_ial X.a10 (by omega) (by omega) rfl ((congrArg _ (show (16 * ((g : Nat) : Int) + ((o : Nat) : Int)).toNat = 16 * g + o by omega)).trans (s4 o ho).2) dX8_doesSee_257 ?_
      refine e_i2l ⟨by omega, by omega⟩ dX8_doesSee_258 ?_
      refine e_pureS qcX8_169 (S_misOn ⟨by omega, by omega⟩ ⟨by omega, by omega⟩ ⟨by omega, by omega⟩ ⟨by omega, by omega⟩ ⟨by omega, by omega⟩ ⟨by omega, by omega⟩ ) rfl rfl rfl rfl dX8_doesSee_259 ?_
      refine e_ifP_eq (tgt := 308) dX8_doesSee_262 rfl (fun c_262 => ?_) (fun c_262 => ?_)
      · have e5 : nxN (S g) a c k (o + 1) = some q := e6.trans (cif_f (fun w => c_262 w.1))
        refine e_iinc dX8_doesSee_308 rfl ?_
        refine e_goto (tgt := 203) dX8_doesSee_311 rfl ?_
        exact e_loc [(9, .int (iN (o + 1 : Nat))), (8, .int (iN (enc g (nxN (S g) a c k (o + 1))))), (7, .int (iN (16 * (g : Int) + (k : Int)))), (6, .int (iN (k : Nat))), (0, .ref m), (1, .int (iN g))] ⟨rfl, by rw [e5]; rfl, rfl, rfl, rfl, rfl, trivial⟩ (ih (o + 1) (by omega))
      · refine e_aload_n dX8_doesSee_265 rfl ?_
        refine e_iload dX8_doesSee_266 rfl ?_
        refine e_pureV qcX8_272 X.obj rfl rfl (S_off X hS9 hg ha ho v1 v2) rfl rfl rfl rfl dX8_doesSee_268 ?_
        refine e_aload_n dX8_doesSee_271 rfl ?_
        refine e_iload dX8_doesSee_272 rfl ?_
        refine e_pureV qcX8_272 X.obj rfl rfl (S_off X hS9 hg ha hk v1 v2) rfl rfl rfl rfl dX8_doesSee_274 ?_
        refine e_icmp_gt (tgt := 283) ⟨by omega, by omega⟩ ⟨by omega, by omega⟩ dX8_doesSee_277 rfl (fun c_277 => ?_) (fun c_277 => ?_)
        · refine e_iload dX8_doesSee_283 rfl ?_
          refine e_iconst dX8_doesSee_285 ?_
          refine e_icmp_eq (tgt := 304) (x := 16 * (g : Int) + (q : Int)) (y := -1) ⟨by omega, by omega⟩ ⟨by decide, by decide⟩ dX8_doesSee_286 rfl (fun c_286 => absurd c_286 (by omega)) (fun c_286 => ?_)
          refine e_aload_n dX8_doesSee_289 rfl ?_
          refine e_iload dX8_doesSee_290 rfl ?_
          refine e_pureV qcX8_272 X.obj rfl rfl (S_off X hS9 hg ha ho v1 v2) rfl rfl rfl rfl dX8_doesSee_292 ?_
          refine e_aload_n dX8_doesSee_295 rfl ?_
          refine e_iload dX8_doesSee_296 rfl ?_
          refine e_pureV qcX8_272 X.obj rfl rfl (S_off X hS9 hg ha hq3 v1 v2) rfl rfl rfl rfl dX8_doesSee_298 ?_
          refine e_icmp_ge (tgt := 308) ⟨by omega, by omega⟩ ⟨by omega, by omega⟩ dX8_doesSee_301 rfl (fun c_301 => ?_) (fun c_301 => ?_)
          · have e5 : nxN (S g) a c k (o + 1) = some q := e6.trans (cif_f (fun w => absurd w.2.2 (Int.not_lt.mpr c_301)))
            refine e_iinc dX8_doesSee_308 rfl ?_
            refine e_goto (tgt := 203) dX8_doesSee_311 rfl ?_
            exact e_loc [(9, .int (iN (o + 1 : Nat))), (8, .int (iN (enc g (nxN (S g) a c k (o + 1))))), (7, .int (iN (16 * (g : Int) + (k : Int)))), (6, .int (iN (k : Nat))), (0, .ref m), (1, .int (iN g))] ⟨rfl, by rw [e5]; rfl, rfl, rfl, rfl, rfl, trivial⟩ (ih (o + 1) (by omega))
          · have e5 : nxN (S g) a c k (o + 1) = some o := e6.trans (cif_t ⟨c_262, c_277, Int.not_le.mp c_301⟩)
            refine e_iload dX8_doesSee_304 rfl ?_
            refine e_istore dX8_doesSee_306 rfl ?_
            refine e_iinc dX8_doesSee_308 rfl ?_
            refine e_goto (tgt := 203) dX8_doesSee_311 rfl ?_
            exact e_loc [(9, .int (iN (o + 1 : Nat))), (8, .int (iN (enc g (nxN (S g) a c k (o + 1))))), (7, .int (iN (16 * (g : Int) + (k : Int)))), (6, .int (iN (k : Nat))), (0, .ref m), (1, .int (iN g))] ⟨rfl, by rw [e5]; rfl, rfl, rfl, rfl, rfl, trivial⟩ (ih (o + 1) (by omega))
        · have e5 : nxN (S g) a c k (o + 1) = some q := e6.trans (cif_f (fun w => absurd w.2.1 (Int.not_lt.mpr (Int.not_lt.mp c_277))))
          refine e_goto (tgt := 308) dX8_doesSee_280 rfl ?_
          refine e_iinc dX8_doesSee_308 rfl ?_
          refine e_goto (tgt := 203) dX8_doesSee_311 rfl ?_
          exact e_loc [(9, .int (iN (o + 1 : Nat))), (8, .int (iN (enc g (nxN (S g) a c k (o + 1))))), (7, .int (iN (16 * (g : Int) + (k : Int)))), (6, .int (iN (k : Nat))), (0, .ref m), (1, .int (iN g))] ⟨rfl, by rw [e5]; rfl, rfl, rfl, rfl, rfl, trivial⟩ (ih (o + 1) (by omega))
set_option maxRecDepth 20000 in
theorem ds_two {z : Option Nat} {g a c : Nat} {sc1 : Nat → Int} (X : mdX G sc1 ar m h0 h) (hS : mdS ar S) (hg : g < 4) (ha : a < (S g).length) (hc : c < (S g).length) (hv : sc1 17 = pX (S g) a ∧ sc1 18 = pY (S g) a ∧ sc1 19 = pX (S g) c ∧ sc1 20 = pY (S g) c) (hA : agr [17, 18, 19, 20, 21, 22, 23, 24] [] sc ar sc1 ar) (h1 : ∀ k, k < (S g).length → ¬ pas3 (S g) a c k) : ∀ (n k : Nat), k + n = (S g).length → (∀ q, q < k → ¬ outM (S g) a c q) → Ev (g_B G mX8_doesSee 0 0 (fun o1 z1 h1 => ∃ v, o1 = .inl v ∧ z1 = z ∧ (fun v h1 => v = some (.int (iN (bC (dsM (S g) a c)))) ∧ ∃ sc2, mdX G sc2 ar m h0 h1 ∧ agr [17, 18, 19, 20, 21, 22, 23, 24] [] sc ar sc2 ar) v h1)) 0 0 z h 132 [(6, .int (iN (k : Nat))), (0, .ref m), (1, .int (iN g))] [] := by
  have hS9 := hS
  have hv9 := hv
  obtain ⟨v1, v2, v3, v4⟩ := hv
  obtain ⟨s1, s2, s3, s4⟩ := hS g hg
  have b1 := s3.at ha
  have b2 := s3.at hc
  intro n
  induction n with
  | zero =>
    intro k hkn hno
    have e9 : k = (S g).length := by omega
    have e7 : dsM (S g) a c := ⟨h1, fun q hq => hno q (by omega)⟩
    refine e_iload dX8_doesSee_132 rfl ?_
    refine e_aload_n dX8_doesSee_134 rfl ?_
    refine e_getf fX8_48 X.obj rfl dX8_doesSee_135 ?_
    refine e_iload_n dX8_doesSee_138 rfl ?_
    refine e_ial X.a11 (by omega) (by omega) rfl s1 dX8_doesSee_139 ?_
    refine e_icmp_ge (tgt := 369) ⟨by omega, by omega⟩ ⟨by omega, by omega⟩ dX8_doesSee_140 rfl (fun c_140 => ?_) (fun c_140 => absurd (by omega) c_140)
    refine e_iconst dX8_doesSee_369 ?_
    refine e_zret rfl (by first | exact Or.inl rfl | exact Or.inr rfl | exact bP_01 _) dX8_doesSee_370 (by decide) (by decide) ?_
    exact ⟨_, rfl, rfl, by rw [bC_t e7], _, X, hA⟩
  | succ n ih =>
    intro k hkn hno
    have hk : k < (S g).length := by omega
    have b3 := s3.at hk
    refine e_iload dX8_doesSee_132 rfl ?_
    refine e_aload_n dX8_doesSee_134 rfl ?_
    refine e_getf fX8_48 X.obj rfl dX8_doesSee_135 ?_
    refine e_iload_n dX8_doesSee_138 rfl ?_
    refine e_ial X.a11 (by omega) (by omega) rfl s1 dX8_doesSee_139 ?_
    refine e_icmp_ge (tgt := 369) ⟨by omega, by omega⟩ ⟨by omega, by omega⟩ dX8_doesSee_140 rfl (fun c_140 => absurd c_140 (by omega)) (fun c_140 => ?_)
    refine e_bipush dX8_doesSee_143 (by decide) ?_
    refine e_iload_n dX8_doesSee_145 rfl ?_
    refine e_imul dX8_doesSee_146 ?_
    refine e_iload dX8_doesSee_147 rfl ?_
    refine e_iadd dX8_doesSee_149 ?_
    refine e_istore dX8_doesSee_150 rfl ?_
    refine e_aload_n dX8_doesSee_152 rfl ?_
    refine e_getf fX8_198 X.obj rfl dX8_doesSee_153 ?_
    rw [v1]
    refine e_i2l ⟨by omega, by omega⟩ dX8_doesSee_156 ?_
    refine e_aload_n dX8_doesSee_157 rfl ?_
    refine e_getf fX8_201 X.obj rfl dX8_doesSee_158 ?_
    rw [v2]
    refine e_i2l ⟨by omega, by omega⟩ dX8_doesSee_161 ?_
    refine e_aload_n dX8_doesSee_162 rfl ?_
    refine e_getf fX8_204 X.obj rfl dX8_doesSee_163 ?_
    rw [v3]
    refine e_i2l ⟨by omega, by omega⟩ dX8_doesSee_166 ?_
    refine e_aload_n dX8_doesSee_167 rfl ?_
    refine e_getf fX8_207 X.obj rfl dX8_doesSee_168 ?_
    rw [v4]
    refine e_i2l ⟨by omega, by omega⟩ dX8_doesSee_171 ?_
    refine e_aload_n dX8_doesSee_172 rfl ?_
    refine e_getf fX8_42 X.obj rfl dX8_doesSee_173 ?_
    refine e_iload dX8_doesSee_176 rfl ?_
    refine e_ial X.a9 (by omega) (by omega) rfl ((congrArg _ (show (16 * ((g : Nat) : Int) + ((k : Nat) : Int)).toNat = 16 * g + k by omega)).trans (s4 k hk).1) dX8_doesSee_178 ?_
    refine e_i2l ⟨by omega, by omega⟩ dX8_doesSee_179 ?_
    refine e_aload_n dX8_doesSee_180 rfl ?_
    refine e_getf fX8_45 X.obj rfl dX8_doesSee_181 ?_
    refine e_iload dX8_doesSee_184 rfl ?_
    refine e_ial X.a10 (by omega) (by omega) rfl ((congrArg _ (show (16 * ((g : Nat) : Int) + ((k : Nat) : Int)).toNat = 16 * g + k by omega)).trans (s4 k hk).2) dX8_doesSee_186 ?_
    refine e_i2l ⟨by omega, by omega⟩ dX8_doesSee_187 ?_
    refine e_pureS qcX8_169 (S_misOn ⟨by omega, by omega⟩ ⟨by omega, by omega⟩ ⟨by omega, by omega⟩ ⟨by omega, by omega⟩ ⟨by omega, by omega⟩ ⟨by omega, by omega⟩ ) rfl rfl rfl rfl dX8_doesSee_188 ?_
    refine e_ifP_ne (tgt := 197) dX8_doesSee_191 rfl (fun c_191 => ?_) (fun c_191 => ?_)
    · refine e_iconst dX8_doesSee_197 ?_
      refine e_istore dX8_doesSee_198 rfl ?_
      refine e_iconst dX8_doesSee_200 ?_
      refine e_istore dX8_doesSee_201 rfl ?_
      refine e_loc [(9, .int (iN (0 : Nat))), (8, .int (iN (enc g (nxN (S g) a c k (0))))), (7, .int (iN (16 * (g : Int) + (k : Int)))), (6, .int (iN (k : Nat))), (0, .ref m), (1, .int (iN g))] ⟨rfl, rfl, rfl, rfl, rfl, rfl, trivial⟩ (ds_next X hS9 hg ha hc hk hv9 ?_ _ 0 (Nat.zero_add _))
      cases hN : nxN (S g) a c k (S g).length with
      | none =>
        refine (show Ev _ 0 0 z h 314 [(8, .int (iN (-1))), (7, .int (iN (16 * (g : Int) + (k : Int)))), (6, .int (iN (k : Nat))), (0, .ref m), (1, .int (iN g))] [] from ?_)
        refine e_iload dX8_doesSee_314 rfl ?_
        refine e_iconst dX8_doesSee_316 ?_
        refine e_icmp_eq (tgt := 363) (x := -1) (y := -1) ⟨by decide, by decide⟩ ⟨by decide, by decide⟩ dX8_doesSee_317 rfl (fun c_317 => ?_) (fun c_317 => absurd rfl c_317)
        refine e_iinc dX8_doesSee_363 rfl ?_
        refine e_goto (tgt := 132) dX8_doesSee_366 rfl ?_
        exact e_loc [(6, .int (iN (k + 1 : Nat))), (0, .ref m), (1, .int (iN g))] ⟨rfl, rfl, rfl, trivial⟩ (ih (k + 1) (by omega) (fun q hq => if w : q < k then hno q w else by rw [show q = k by omega]; exact (fun w => by obtain ⟨-, q, hq, -⟩ := w; rw [hN] at hq; cases hq)))
      | some q =>
        have hq3 := nxN_lt hN
        have b4 := s3.at hq3
        have hw := wI_b (S g) 2 (pX (S g) k + pX (S g) q) (pY (S g) k + pY (S g) q)
        refine (show Ev _ 0 0 z h 314 [(8, .int (iN (16 * (g : Int) + (q : Int)))), (7, .int (iN (16 * (g : Int) + (k : Int)))), (6, .int (iN (k : Nat))), (0, .ref m), (1, .int (iN g))] [] from ?_)
        refine e_iload dX8_doesSee_314 rfl ?_
        refine e_iconst dX8_doesSee_316 ?_
        refine e_icmp_eq (tgt := 363) (x := 16 * (g : Int) + (q : Int)) (y := -1) ⟨by omega, by omega⟩ ⟨by decide, by decide⟩ dX8_doesSee_317 rfl (fun c_317 => absurd c_317 (by omega)) (fun c_317 => ?_)
        refine e_aload_n dX8_doesSee_320 rfl ?_
        refine e_iload_n dX8_doesSee_321 rfl ?_
        refine e_aload_n dX8_doesSee_322 rfl ?_
        refine e_getf fX8_42 X.obj rfl dX8_doesSee_323 ?_
        refine e_iload dX8_doesSee_326 rfl ?_
        refine e_ial X.a9 (by omega) (by omega) rfl ((congrArg _ (show (16 * ((g : Nat) : Int) + ((k : Nat) : Int)).toNat = 16 * g + k by omega)).trans (s4 k hk).1) dX8_doesSee_328 ?_
        refine e_aload_n dX8_doesSee_329 rfl ?_
        refine e_getf fX8_42 X.obj rfl dX8_doesSee_330 ?_
        refine e_iload dX8_doesSee_333 rfl ?_
        refine e_ial X.a9 (by omega) (by omega) rfl ((congrArg _ (show (16 * ((g : Nat) : Int) + ((q : Nat) : Int)).toNat = 16 * g + q by omega)).trans (s4 q hq3).1) dX8_doesSee_335 ?_
        refine e_iadd dX8_doesSee_336 ?_
        refine e_i2l ⟨by omega, by omega⟩ dX8_doesSee_337 ?_
        refine e_aload_n dX8_doesSee_338 rfl ?_
        refine e_getf fX8_45 X.obj rfl dX8_doesSee_339 ?_
        refine e_iload dX8_doesSee_342 rfl ?_
        refine e_ial X.a10 (by omega) (by omega) rfl ((congrArg _ (show (16 * ((g : Nat) : Int) + ((k : Nat) : Int)).toNat = 16 * g + k by omega)).trans (s4 k hk).2) dX8_doesSee_344 ?_
        refine e_aload_n dX8_doesSee_345 rfl ?_
        refine e_getf fX8_45 X.obj rfl dX8_doesSee_346 ?_
        refine e_iload dX8_doesSee_349 rfl ?_
        refine e_ial X.a10 (by omega) (by omega) rfl ((congrArg _ (show (16 * ((g : Nat) : Int) + ((q : Nat) : Int)).toNat = 16 * g + q by omega)).trans (s4 q hq3).2) dX8_doesSee_351 ?_
        refine e_iadd dX8_doesSee_352 ?_
        refine e_i2l ⟨by omega, by omega⟩ dX8_doesSee_353 ?_
        refine e_iconst dX8_doesSee_354 ?_
        refine e_pureV qcX8_248 X.obj rfl rfl (S_sideOf X hS9 hg (s := 2) (x := pX (S g) k + pX (S g) q) (y := pY (S g) k + pY (S g) q) ⟨by decide, by decide⟩ ⟨by omega, by omega⟩ ⟨by omega, by omega⟩) rfl rfl rfl rfl dX8_doesSee_355 ?_
        refine e_if_ge (tgt := 363) ⟨by omega, by omega⟩ dX8_doesSee_358 rfl (fun c_358 => ?_) (fun c_358 => ?_)
        · refine e_iinc dX8_doesSee_363 rfl ?_
          refine e_goto (tgt := 132) dX8_doesSee_366 rfl ?_
          exact e_loc [(6, .int (iN (k + 1 : Nat))), (0, .ref m), (1, .int (iN g))] ⟨rfl, rfl, rfl, trivial⟩ (ih (k + 1) (by omega) (fun q hq => if w : q < k then hno q w else by rw [show q = k by omega]; exact (fun w => by obtain ⟨-, q2, hq2, hw2⟩ := w; rw [hN] at hq2; cases hq2; exact absurd hw2 (Int.not_lt.mpr c_358))))
        · refine e_iconst dX8_doesSee_361 ?_
          refine e_zret rfl (by first | exact Or.inl rfl | exact Or.inr rfl | exact bP_01 _) dX8_doesSee_362 (by decide) (by decide) ?_
          exact ⟨_, rfl, rfl, by rw [show bC (dsM (S g) a c) = 0 from bC_f (fun w => w.2 k hk ⟨c_191, q, hN, Int.not_le.mp c_358⟩)], _, X, hA⟩
    · refine e_goto (tgt := 363) dX8_doesSee_194 rfl ?_
      refine e_iinc dX8_doesSee_363 rfl ?_
      refine e_goto (tgt := 132) dX8_doesSee_366 rfl ?_
      exact e_loc [(6, .int (iN (k + 1 : Nat))), (0, .ref m), (1, .int (iN g))] ⟨rfl, rfl, rfl, trivial⟩ (ih (k + 1) (by omega) (fun q hq => if w : q < k then hno q w else by rw [show q = k by omega]; exact (fun w => c_191 w.1)))
set_option maxRecDepth 20000 in
theorem ds_one {z : Option Nat} {g a c : Nat} (hS : mdS ar S) (hg : g < 4) (ha : a < (S g).length) (hc : c < (S g).length) : ∀ (n k : Nat) (sc1 : Nat → Int) (h : g_hp), mdX G sc1 ar m h0 h → sc1 17 = pX (S g) a ∧ sc1 18 = pY (S g) a ∧ sc1 19 = pX (S g) c ∧ sc1 20 = pY (S g) c → agr [17, 18, 19, 20, 21, 22, 23, 24] [] sc ar sc1 ar → (∀ q, q < k → ¬ pas3 (S g) a c q) → k + n = (S g).length → Ev (g_B G mX8_doesSee 0 0 (fun o1 z1 h1 => ∃ v, o1 = .inl v ∧ z1 = z ∧ (fun v h1 => v = some (.int (iN (bC (dsM (S g) a c)))) ∧ ∃ sc2, mdX G sc2 ar m h0 h1 ∧ agr [17, 18, 19, 20, 21, 22, 23, 24] [] sc ar sc2 ar) v h1)) 0 0 z h 51 [(6, .int (iN (k : Nat))), (0, .ref m), (1, .int (iN g))] [] := by
  have hS9 := hS
  obtain ⟨s1, s2, s3, s4⟩ := hS g hg
  have b1 := s3.at ha
  have b2 := s3.at hc
  intro n
  induction n with
  | zero =>
    intro k sc1 h X hv hA hno hkn
    have e9 : k = (S g).length := by omega
    refine e_iload dX8_doesSee_51 rfl ?_
    refine e_aload_n dX8_doesSee_53 rfl ?_
    refine e_getf fX8_48 X.obj rfl dX8_doesSee_54 ?_
    refine e_iload_n dX8_doesSee_57 rfl ?_
    refine e_ial X.a11 (by omega) (by omega) rfl s1 dX8_doesSee_58 ?_
    refine e_icmp_ge (tgt := 129) ⟨by omega, by omega⟩ ⟨by omega, by omega⟩ dX8_doesSee_59 rfl (fun c_59 => ?_) (fun c_59 => absurd (by omega) c_59)
    refine e_iconst dX8_doesSee_129 ?_
    refine e_istore dX8_doesSee_130 rfl ?_
    exact e_loc [(6, .int (iN (0 : Nat))), (0, .ref m), (1, .int (iN g))] ⟨rfl, rfl, rfl, trivial⟩ (ds_two X hS9 hg ha hc hv hA (fun q hq => hno q (by omega)) _ 0 (Nat.zero_add _) (fun q hq => absurd hq (Nat.not_lt_zero _)))
  | succ n ih =>
    intro k sc1 h X hv hA hno hkn
    have hk : k < (S g).length := by omega
    have hn := nxt_lt hk
    have b3 := s3.at hk
    have b4 := s3.at hn
    letI : Decidable (pas3 (S g) a c k) := Classical.propDecidable _
    refine e_iload dX8_doesSee_51 rfl ?_
    refine e_aload_n dX8_doesSee_53 rfl ?_
    refine e_getf fX8_48 X.obj rfl dX8_doesSee_54 ?_
    refine e_iload_n dX8_doesSee_57 rfl ?_
    refine e_ial X.a11 (by omega) (by omega) rfl s1 dX8_doesSee_58 ?_
    refine e_icmp_ge (tgt := 129) ⟨by omega, by omega⟩ ⟨by omega, by omega⟩ dX8_doesSee_59 rfl (fun c_59 => absurd c_59 (by omega)) (fun c_59 => ?_)
    refine e_aload_n dX8_doesSee_62 rfl ?_
    refine e_iload_n dX8_doesSee_63 rfl ?_
    refine e_iload dX8_doesSee_64 rfl ?_
    refine e_pureV qcX8_226 X.obj rfl rfl (S_corner0 X hS9 hg hk) rfl rfl rfl rfl dX8_doesSee_66 ?_
    refine e_istore dX8_doesSee_69 rfl ?_
    refine e_aload_n dX8_doesSee_71 rfl ?_
    refine e_iload_n dX8_doesSee_72 rfl ?_
    refine e_iload dX8_doesSee_73 rfl ?_
    refine e_iconst dX8_doesSee_75 ?_
    refine e_iadd dX8_doesSee_76 ?_
    refine e_pureV qcX8_226 X.obj rfl rfl (S_corner1 X hS9 hg hk) rfl rfl rfl rfl dX8_doesSee_77 ?_
    refine e_istore dX8_doesSee_80 rfl ?_
    refine e_aload_n dX8_doesSee_82 rfl ?_
    refine e_aload_n dX8_doesSee_83 rfl ?_
    refine e_getf fX8_42 X.obj rfl dX8_doesSee_84 ?_
    refine e_iload dX8_doesSee_87 rfl ?_
    refine e_ial X.a9 (by omega) (by omega) rfl ((congrArg _ (show (16 * ((g : Nat) : Int) + ((k : Nat) : Int)).toNat = 16 * g + k by omega)).trans (s4 k hk).1) dX8_doesSee_89 ?_
    refine e_aload_n dX8_doesSee_90 rfl ?_
    refine e_getf fX8_45 X.obj rfl dX8_doesSee_91 ?_
    refine e_iload dX8_doesSee_94 rfl ?_
    refine e_ial X.a10 (by omega) (by omega) rfl ((congrArg _ (show (16 * ((g : Nat) : Int) + ((k : Nat) : Int)).toNat = 16 * g + k by omega)).trans (s4 k hk).2) dX8_doesSee_96 ?_
    refine e_aload_n dX8_doesSee_97 rfl ?_
    refine e_getf fX8_42 X.obj rfl dX8_doesSee_98 ?_
    refine e_iload dX8_doesSee_101 rfl ?_
    refine e_ial X.a9 (by omega) (by omega) rfl ((congrArg _ (show (16 * ((g : Nat) : Int) + (((nxt (S g).length k) : Nat) : Int)).toNat = 16 * g + (nxt (S g).length k) by omega)).trans (s4 (nxt (S g).length k) hn).1) dX8_doesSee_103 ?_
    refine e_aload_n dX8_doesSee_104 rfl ?_
    refine e_getf fX8_45 X.obj rfl dX8_doesSee_105 ?_
    refine e_iload dX8_doesSee_108 rfl ?_
    refine e_ial X.a10 (by omega) (by omega) rfl ((congrArg _ (show (16 * ((g : Nat) : Int) + (((nxt (S g).length k) : Nat) : Int)).toNat = 16 * g + (nxt (S g).length k) by omega)).trans (s4 (nxt (S g).length k) hn).2) dX8_doesSee_110 ?_
    refine e_doesV qcX8_233 X.obj rfl rfl (S_takesSecond X) rfl rfl rfl rfl dX8_doesSee_111 ?_
    intro v h9 q9
    obtain ⟨rfl, X⟩ := q9
    have h8 : st8 (uI (uI (uI (uI sc1 21 (pX (S g) k)) 22 (pY (S g) k)) 23 (nX (S g) k)) 24 (nY (S g) k)) (pX (S g) a) (pY (S g) a) (pX (S g) c) (pY (S g) c) (pX (S g) k) (pY (S g) k) (nX (S g) k) (nY (S g) k) := ⟨⟨hv.1, hv.2.1, hv.2.2.1, hv.2.2.2, rfl, rfl, rfl, rfl⟩, ⟨⟨by omega, by omega⟩, ⟨by omega, by omega⟩, ⟨by omega, by omega⟩, by omega, by omega⟩, ⟨by omega, by omega⟩, ⟨by omega, by omega⟩, ⟨by show _ ≤ pX _ _; omega, by show pX _ _ ≤ _; omega⟩, by show _ ≤ pY _ _; omega, by show pY _ _ ≤ _; omega⟩
    replace hA := (((hA.pk (k := 21) (v := pX (S g) k) (by decide)).pk (k := 22) (v := pY (S g) k) (by decide)).pk (k := 23) (v := nX (S g) k) (by decide)).pk (k := 24) (v := nY (S g) k) (by decide)
    replace hv : (uI (uI (uI (uI sc1 21 (pX (S g) k)) 22 (pY (S g) k)) 23 (nX (S g) k)) 24 (nY (S g) k)) 17 = pX (S g) a ∧ (uI (uI (uI (uI sc1 21 (pX (S g) k)) 22 (pY (S g) k)) 23 (nX (S g) k)) 24 (nY (S g) k)) 18 = pY (S g) a ∧ (uI (uI (uI (uI sc1 21 (pX (S g) k)) 22 (pY (S g) k)) 23 (nX (S g) k)) 24 (nY (S g) k)) 19 = pX (S g) c ∧ (uI (uI (uI (uI sc1 21 (pX (S g) k)) 22 (pY (S g) k)) 23 (nX (S g) k)) 24 (nY (S g) k)) 20 = pY (S g) c := hv
    generalize uI (uI (uI (uI sc1 21 (pX (S g) k)) 22 (pY (S g) k)) 23 (nX (S g) k)) 24 (nY (S g) k) = sc2 at X hA hv h8
    refine e_aload_n dX8_doesSee_114 rfl ?_
    refine e_pureV qcX8_222 X.obj rfl rfl (S_doCross X h8) rfl rfl rfl rfl dX8_doesSee_115 ?_
    refine e_ifP_eq (tgt := 123) dX8_doesSee_118 rfl (fun c_118 => ?_) (fun c_118 => ?_)
    · refine e_iinc dX8_doesSee_123 rfl ?_
      refine e_goto (tgt := 51) dX8_doesSee_126 rfl ?_
      exact e_loc [(6, .int (iN (k + 1 : Nat))), (0, .ref m), (1, .int (iN g))] ⟨rfl, rfl, rfl, trivial⟩ (ih (k + 1) _ _ X hv hA (fun q hq => if w : q < k then hno q w else by rw [show q = k by omega]; exact c_118) (by omega))
    · refine e_iconst dX8_doesSee_121 ?_
      refine e_zret rfl (by first | exact Or.inl rfl | exact Or.inr rfl | exact bP_01 _) dX8_doesSee_122 (by decide) (by decide) ?_
      exact ⟨_, rfl, rfl, by rw [show bC (dsM (S g) a c) = 0 from bC_f (fun w => w.1 k hk c_118)], _, X, hA⟩
set_option maxRecDepth 20000 in
theorem S_doesSee (X : mdX G sc ar m h0 h) (hS : mdS ar S) {g : Nat} (hg : g < 4) {a c : Nat} (ha : a < (S g).length) (hc : c < (S g).length) : Does G mX8_doesSee [.ref m, .int (iN g), .int (iN a), .int (iN c)] h (fun v h1 => v = some (.int (iN (bC (dsM (S g) a c)))) ∧ ∃ sc2, mdX G sc2 ar m h0 h1 ∧ agr [17, 18, 19, 20, 21, 22, 23, 24] [] sc ar sc2 ar) := by
  have hS9 := hS
  obtain ⟨s1, s2, s3, s4⟩ := hS g hg
  intro z
  refine run_of rfl plX8 rfl ?_
  refine e_bipush dX8_doesSee_0 (by decide) ?_
  refine e_iload_n dX8_doesSee_2 rfl ?_
  refine e_imul dX8_doesSee_3 ?_
  refine e_iload_n dX8_doesSee_4 rfl ?_
  refine e_iadd dX8_doesSee_5 ?_
  refine e_istore dX8_doesSee_6 rfl ?_
  refine e_bipush dX8_doesSee_8 (by decide) ?_
  refine e_iload_n dX8_doesSee_10 rfl ?_
  refine e_imul dX8_doesSee_11 ?_
  refine e_iload_n dX8_doesSee_12 rfl ?_
  refine e_iadd dX8_doesSee_13 ?_
  refine e_istore dX8_doesSee_14 rfl ?_
  refine e_aload_n dX8_doesSee_16 rfl ?_
  refine e_aload_n dX8_doesSee_17 rfl ?_
  refine e_getf fX8_42 X.obj rfl dX8_doesSee_18 ?_
  refine e_iload dX8_doesSee_21 rfl ?_
  refine e_ial X.a9 (by omega) (by omega) rfl ((congrArg _ (show (16 * ((g : Nat) : Int) + ((a : Nat) : Int)).toNat = 16 * g + a by omega)).trans (s4 a ha).1) dX8_doesSee_23 ?_
  refine e_aload_n dX8_doesSee_24 rfl ?_
  refine e_getf fX8_45 X.obj rfl dX8_doesSee_25 ?_
  refine e_iload dX8_doesSee_28 rfl ?_
  refine e_ial X.a10 (by omega) (by omega) rfl ((congrArg _ (show (16 * ((g : Nat) : Int) + ((a : Nat) : Int)).toNat = 16 * g + a by omega)).trans (s4 a ha).2) dX8_doesSee_30 ?_
  refine e_aload_n dX8_doesSee_31 rfl ?_
  refine e_getf fX8_42 X.obj rfl dX8_doesSee_32 ?_
  refine e_iload dX8_doesSee_35 rfl ?_
  refine e_ial X.a9 (by omega) (by omega) rfl ((congrArg _ (show (16 * ((g : Nat) : Int) + ((c : Nat) : Int)).toNat = 16 * g + c by omega)).trans (s4 c hc).1) dX8_doesSee_37 ?_
  refine e_aload_n dX8_doesSee_38 rfl ?_
  refine e_getf fX8_45 X.obj rfl dX8_doesSee_39 ?_
  refine e_iload dX8_doesSee_42 rfl ?_
  refine e_ial X.a10 (by omega) (by omega) rfl ((congrArg _ (show (16 * ((g : Nat) : Int) + ((c : Nat) : Int)).toNat = 16 * g + c by omega)).trans (s4 c hc).2) dX8_doesSee_44 ?_
  refine e_doesV qcX8_229 X.obj rfl rfl (S_takesFirst X) rfl rfl rfl rfl dX8_doesSee_45 ?_
  intro v h9 q9
  obtain ⟨rfl, X⟩ := q9
  refine e_iconst dX8_doesSee_48 ?_
  refine e_istore dX8_doesSee_49 rfl ?_
  exact e_loc [(6, .int (iN (0 : Nat))), (0, .ref m), (1, .int (iN g))] ⟨rfl, rfl, rfl, trivial⟩ (ds_one hS9 hg ha hc _ 0 _ _ X ⟨rfl, rfl, rfl, rfl⟩ ((((agr.rf.pk (by decide)).pk (by decide)).pk (by decide)).pk (by decide)) (fun q hq => absurd hq (Nat.not_lt_zero _)) (Nat.zero_add _))
set_option maxRecDepth 20000 in
theorem M_sees (X : mdX G sc0 ar m h0 h) (hR : mdR sc0 ar P E S b P2 E2 S2 F) {j : Int} (rj : r32 j) {k : Int} (rk : r32 k) {l : Int} (rl : r32 l) (hgc : ∀ g, g < 4 → (gdM (S g) ↔ closes (S g))) (hm : ∀ g : Nat, g < 4 → closes (S g) → ∀ a c : Nat, a < (S g).length → c < (S g).length → (dsM (S g) a c ↔ opn (S g) a c)) : Run G mX8_sees [.ref m, .int (iN j), .int (iN k), .int (iN l)] none h 0 0 (mZ G (k_sees S j k l) P E S b P2 E2 S2 F m h0) := by
  have rj1 := rj.1
  have rj2 := rj.2
  have rk1 := rk.1
  have rk2 := rk.2
  have rl1 := rl.1
  have rl2 := rl.2
  refine run_of rfl plX8 rfl ?_
  refine e_aload_n dX8_sees_0 rfl ?_
  refine e_iconst dX8_sees_1 ?_
  refine e_putf pfX8_1 X.obj rfl rfl rfl dX8_sees_2 ?_
  refine X.pto (q := 0) (fun h9 X9 => ?_) rfl
  replace X := X9
  clear X9
  replace hR := hR.t0 0
  have ht : uI sc0 0 0 0 = 0 := uI_s _ _ _
  generalize uI sc0 0 0 = sc at X hR ht
  refine e_aload_n dX8_sees_5 rfl ?_
  refine e_iload_n dX8_sees_6 rfl ?_
  refine e_iload_n dX8_sees_7 rfl ?_
  
  by_cases c_1 : pgOK j
  · obtain ⟨g, rfl⟩ : ∃ g : Nat, j = (g : Int) := ⟨j.toNat, by omega⟩
    have hg : g < 4 := by omega
    obtain ⟨s1, s2, s3, s4⟩ := id (hR.2.2.1 g hg)
    by_cases d_k : crOK (S g) k
    · refine e_pureV qcX8_275 X.obj rfl rfl (S_noCorner_t X hR.2.2.1 rj rk c_1 d_k ht) rfl rfl rfl rfl dX8_sees_8 ?_
      refine e_if_ne (tgt := 50) ⟨by decide, by decide⟩ dX8_sees_11 rfl (fun c_11 => absurd rfl c_11) (fun c_11 => ?_)
      refine e_aload_n dX8_sees_14 rfl ?_
      refine e_iload_n dX8_sees_15 rfl ?_
      refine e_iload_n dX8_sees_16 rfl ?_
      
      by_cases d_l : crOK (S g) l
      · refine e_pureV qcX8_275 X.obj rfl rfl (S_noCorner_t X hR.2.2.1 rj rl c_1 d_l ht) rfl rfl rfl rfl dX8_sees_17 ?_
        refine e_if_ne (tgt := 50) ⟨by decide, by decide⟩ dX8_sees_20 rfl (fun c_20 => absurd rfl c_20) (fun c_20 => ?_)
        refine e_aload_n dX8_sees_23 rfl ?_
        refine e_aload_n dX8_sees_24 rfl ?_
        refine e_iload_n dX8_sees_25 rfl ?_
        refine e_doesV qcX8_239 X.obj rfl rfl (S_isGood X hR.2.2.1 hg) rfl rfl rfl rfl dX8_sees_26 ?_
        intro v h9 q9
        obtain ⟨rfl, sc2, X, hA⟩ := q9
        replace hR := hR.to (hA.wk (by decide) (by decide)) hR.2.2.2.2
        replace ht := (hA.1 0 (by decide)).trans ht
        clear hA
        generalize sc2 = sc at X hR ht
        refine e_iconst dX8_sees_29 ?_
        
        by_cases c_g : closes (S g)
        · obtain ⟨a, rfl⟩ : ∃ a : Nat, k = (a : Int) := ⟨k.toNat, by have := d_k.1; omega⟩
          have ha : a < (S g).length := by have := d_k.2; omega
          obtain ⟨c, rfl⟩ : ∃ c : Nat, l = (c : Int) := ⟨l.toNat, by have := d_l.1; omega⟩
          have hc : c < (S g).length := by have := d_l.2; omega
          letI : Decidable (gdM (S g)) := Classical.propDecidable _
          refine e_pureV qcX8_104 X.obj rfl rfl (S_fails_t X ((hgc g hg).mpr c_g) ht) rfl rfl rfl rfl dX8_sees_30 ?_
          refine e_if_ne (tgt := 50) ⟨by decide, by decide⟩ dX8_sees_33 rfl (fun c_33 => absurd rfl c_33) (fun c_33 => ?_)
          refine e_aload_n dX8_sees_36 rfl ?_
          refine e_iload_n dX8_sees_37 rfl ?_
          refine e_iload_n dX8_sees_38 rfl ?_
          refine e_iload_n dX8_sees_39 rfl ?_
          refine e_doesV qcX8_278 X.obj rfl rfl (S_doesSee X hR.2.2.1 hg ha hc) rfl rfl rfl rfl dX8_sees_40 ?_
          intro v h9 q9
          obtain ⟨rfl, sc2, X, hA⟩ := q9
          replace hR := hR.to (hA.wk (by decide) (by decide)) hR.2.2.2.2
          replace ht := (hA.1 0 (by decide)).trans ht
          generalize sc2 = sc at X hR ht
          letI : Decidable (dsM (S g) a c) := Classical.propDecidable _
          refine e_ifP_eq (tgt := 50) dX8_sees_43 rfl (fun c_43 => ?_) (fun c_43 => ?_)
          · have e6 : (k_sees S (g : Int) (a : Int) (c : Int)) = (0, 0) := (((if_pos c_1).trans (if_pos d_k)).trans ((if_pos d_l).trans (cif_t c_g))).trans (congrArg (fun v => ((0 : Nat), v)) (bC_f (fun w => c_43 ((hm g hg c_g a c ha hc).mpr w))))
            refine e_iconst dX8_sees_50 ?_
            refine e_zret rfl (by first | exact Or.inl rfl | exact Or.inr rfl | exact bP_01 _) dX8_sees_51 (by decide) (by decide) ?_
            exact mz e6 ⟨rfl, rfl, _, _, X, hR, ht⟩
          · have e6 : (k_sees S (g : Int) (a : Int) (c : Int)) = (0, 1) := (((if_pos c_1).trans (if_pos d_k)).trans ((if_pos d_l).trans (cif_t c_g))).trans (congrArg (fun v => ((0 : Nat), v)) (bC_t ((hm g hg c_g a c ha hc).mp c_43)))
            refine e_iconst dX8_sees_46 ?_
            refine e_goto (tgt := 51) dX8_sees_47 rfl ?_
            refine e_zret rfl (by first | exact Or.inl rfl | exact Or.inr rfl | exact bP_01 _) dX8_sees_51 (by decide) (by decide) ?_
            exact mz e6 ⟨rfl, rfl, _, _, X, hR, ht⟩
        letI : Decidable (gdM (S g)) := Classical.propDecidable _
        refine e_doesV qcX8_104 X.obj rfl rfl (S_fails_f X (fun w => c_g ((hgc g hg).mp w)) ht ⟨by decide, by decide⟩) rfl rfl rfl rfl dX8_sees_30 ?_
        intro v h9 q9
        obtain ⟨rfl, X⟩ := q9
        refine e_if_ne (tgt := 50) ⟨by decide, by decide⟩ dX8_sees_33 rfl (fun c_33 => ?_) (fun c_33 => absurd (by decide) c_33)
        refine e_iconst dX8_sees_50 ?_
        refine e_zret rfl (by first | exact Or.inl rfl | exact Or.inr rfl | exact bP_01 _) dX8_sees_51 (by decide) (by decide) ?_
        exact mz (show (k_sees S (g : Int) k l) = (3, 0) from ((((if_pos c_1).trans (if_pos d_k)).trans (if_pos d_l)).trans (cif_f c_g))) ⟨rfl, rfl, _, _, X, hR.t0 _, uI_s _ _ _⟩
      refine e_doesV qcX8_275 X.obj rfl rfl (S_noCorner_f2 X hR.2.2.1 rj rl c_1 d_l ht) rfl rfl rfl rfl dX8_sees_17 ?_
      intro v h9 q9
      obtain ⟨rfl, X⟩ := q9
      refine e_if_ne (tgt := 50) ⟨by decide, by decide⟩ dX8_sees_20 rfl (fun c_20 => ?_) (fun c_20 => absurd (by decide) c_20)
      refine e_iconst dX8_sees_50 ?_
      refine e_zret rfl (by first | exact Or.inl rfl | exact Or.inr rfl | exact bP_01 _) dX8_sees_51 (by decide) (by decide) ?_
      exact mz (show (k_sees S (g : Int) k l) = (2, 0) from (((if_pos c_1).trans (if_pos d_k)).trans (if_neg d_l))) ⟨rfl, rfl, _, _, X, hR.t0 _, uI_s _ _ _⟩
    refine e_doesV qcX8_275 X.obj rfl rfl (S_noCorner_f2 X hR.2.2.1 rj rk c_1 d_k ht) rfl rfl rfl rfl dX8_sees_8 ?_
    intro v h9 q9
    obtain ⟨rfl, X⟩ := q9
    refine e_if_ne (tgt := 50) ⟨by decide, by decide⟩ dX8_sees_11 rfl (fun c_11 => ?_) (fun c_11 => absurd (by decide) c_11)
    refine e_iconst dX8_sees_50 ?_
    refine e_zret rfl (by first | exact Or.inl rfl | exact Or.inr rfl | exact bP_01 _) dX8_sees_51 (by decide) (by decide) ?_
    exact mz (show (k_sees S (g : Int) k l) = (2, 0) from ((if_pos c_1).trans (if_neg d_k))) ⟨rfl, rfl, _, _, X, hR.t0 _, uI_s _ _ _⟩
  refine e_doesV qcX8_275 X.obj rfl rfl (S_noCorner_f1 X rj rk c_1 ht) rfl rfl rfl rfl dX8_sees_8 ?_
  intro v h9 q9
  obtain ⟨rfl, X⟩ := q9
  refine e_if_ne (tgt := 50) ⟨by decide, by decide⟩ dX8_sees_11 rfl (fun c_11 => ?_) (fun c_11 => absurd (by decide) c_11)
  refine e_iconst dX8_sees_50 ?_
  refine e_zret rfl (by first | exact Or.inl rfl | exact Or.inr rfl | exact bP_01 _) dX8_sees_51 (by decide) (by decide) ?_
  exact mz (show (k_sees S j k l) = (1, 0) from (if_neg c_1)) ⟨rfl, rfl, _, _, X, hR.t0 _, uI_s _ _ _⟩
set_option maxRecDepth 20000 in
theorem vw_loop8 {g a : Nat} (hg : g < 4) (hc : closes (S g)) (ha : a < (S g).length) (hm : ∀ g : Nat, g < 4 → closes (S g) → ∀ a c : Nat, a < (S g).length → c < (S g).length → (dsM (S g) a c ↔ opn (S g) a c)) : ∀ (n o : Nat) (sc : Nat → Int) (h : g_hp), mdX G sc ar m h0 h → mdR sc ar P E S b P2 E2 S2 F → sc 0 = 0 → o + n = (S g).length → Ev (g_B G mX8_view 0 0 (mZ G ((0, (vwN (S g) a (S g).length : Int)) : Nat × Int) P E S b P2 E2 S2 F m h0)) 0 0 none h 34 [(4, .int (iN (o : Nat))), (3, .int (iN (vwN (S g) a (o) : Nat))), (0, .ref m), (1, .int (iN g)), (2, .int (iN a))] [] := by
  intro n
  induction n with
  | zero =>
    intro o sc h X hR ht hon
    obtain ⟨s1, s2, s3, s4⟩ := id (hR.2.2.1 g hg)
    have e9 : o = (S g).length := by omega
    rw [e9]
    refine e_iload dX8_view_34 rfl ?_
    refine e_aload_n dX8_view_36 rfl ?_
    refine e_getf fX8_48 X.obj rfl dX8_view_37 ?_
    refine e_iload_n dX8_view_40 rfl ?_
    refine e_ial X.a11 (by omega) (by omega) rfl s1 dX8_view_41 ?_
    refine e_icmp_ge (tgt := 76) ⟨by omega, by omega⟩ ⟨by omega, by omega⟩ dX8_view_42 rfl (fun c_42 => ?_) (fun c_42 => absurd (by omega) c_42)
    refine e_iload_n dX8_view_76 rfl ?_
    refine e_iret rfl dX8_view_77 (by decide) (by decide) ?_
    exact ⟨rfl, rfl, _, _, X, hR, ht⟩
  | succ n ih =>
    intro o sc h X hR ht hon
    obtain ⟨s1, s2, s3, s4⟩ := id (hR.2.2.1 g hg)
    have ho : o < (S g).length := by omega
    letI : Decidable (dsM (S g) a o) := Classical.propDecidable _
    refine e_iload dX8_view_34 rfl ?_
    refine e_aload_n dX8_view_36 rfl ?_
    refine e_getf fX8_48 X.obj rfl dX8_view_37 ?_
    refine e_iload_n dX8_view_40 rfl ?_
    refine e_ial X.a11 (by omega) (by omega) rfl s1 dX8_view_41 ?_
    refine e_icmp_ge (tgt := 76) ⟨by omega, by omega⟩ ⟨by omega, by omega⟩ dX8_view_42 rfl (fun c_42 => absurd c_42 (by omega)) (fun c_42 => ?_)
    refine e_iload_n dX8_view_45 rfl ?_
    refine e_iload dX8_view_46 rfl ?_
    refine e_iload_n dX8_view_48 rfl ?_
    refine e_icmp_eq (tgt := 67) ⟨by omega, by omega⟩ ⟨by omega, by omega⟩ dX8_view_49 rfl (fun c_49 => ?_) (fun c_49 => ?_)
    · have e6 : vwN (S g) a (o + 1) = vwN (S g) a o := cif_f (fun w => absurd w.1 (by omega))
      refine e_iconst dX8_view_67 ?_
      refine e_iadd dX8_view_68 ?_
      refine e_istore_n dX8_view_69 rfl ?_
      refine e_iinc dX8_view_70 rfl ?_
      refine e_goto (tgt := 34) dX8_view_73 rfl ?_
      exact e_loc [(4, .int (iN (o + 1 : Nat))), (3, .int (iN (vwN (S g) a (o + 1) : Nat))), (0, .ref m), (1, .int (iN g)), (2, .int (iN a))] ⟨rfl, by rw [e6]; exact congrArg (fun v => some (Value.int (iN v))) (by omega), rfl, rfl, rfl, trivial⟩ (ih (o + 1) _ _ X hR ht (by omega))
    · refine e_aload_n dX8_view_52 rfl ?_
      refine e_iload_n dX8_view_53 rfl ?_
      refine e_iload_n dX8_view_54 rfl ?_
      refine e_iload dX8_view_55 rfl ?_
      refine e_doesV qcX8_278 X.obj rfl rfl (S_doesSee X hR.2.2.1 hg ha ho) rfl rfl rfl rfl dX8_view_57 ?_
      intro v h9 q9
      obtain ⟨rfl, sc2, X, hA⟩ := q9
      replace hR := hR.to (hA.wk (by decide) (by decide)) hR.2.2.2.2
      replace ht := (hA.1 0 (by decide)).trans ht
      refine e_ifP_eq (tgt := 67) dX8_view_60 rfl (fun c_60 => ?_) (fun c_60 => ?_)
      · have e6 : vwN (S g) a (o + 1) = vwN (S g) a o := cif_f (fun w => c_60 ((hm g hg hc a o ha ho).mpr w.2))
        refine e_iconst dX8_view_67 ?_
        refine e_iadd dX8_view_68 ?_
        refine e_istore_n dX8_view_69 rfl ?_
        refine e_iinc dX8_view_70 rfl ?_
        refine e_goto (tgt := 34) dX8_view_73 rfl ?_
        exact e_loc [(4, .int (iN (o + 1 : Nat))), (3, .int (iN (vwN (S g) a (o + 1) : Nat))), (0, .ref m), (1, .int (iN g)), (2, .int (iN a))] ⟨rfl, by rw [e6]; exact congrArg (fun v => some (Value.int (iN v))) (by omega), rfl, rfl, rfl, trivial⟩ (ih (o + 1) _ _ X hR ht (by omega))
      · have e6 : vwN (S g) a (o + 1) = vwN (S g) a o + 1 := cif_t ⟨by omega, (hm g hg hc a o ha ho).mp c_60⟩
        refine e_iconst dX8_view_63 ?_
        refine e_goto (tgt := 68) dX8_view_64 rfl ?_
        refine e_iadd dX8_view_68 ?_
        refine e_istore_n dX8_view_69 rfl ?_
        refine e_iinc dX8_view_70 rfl ?_
        refine e_goto (tgt := 34) dX8_view_73 rfl ?_
        exact e_loc [(4, .int (iN (o + 1 : Nat))), (3, .int (iN (vwN (S g) a (o + 1) : Nat))), (0, .ref m), (1, .int (iN g)), (2, .int (iN a))] ⟨rfl, by rw [e6]; exact congrArg (fun v => some (Value.int (iN v))) (by omega), rfl, rfl, rfl, trivial⟩ (ih (o + 1) _ _ X hR ht (by omega))
set_option maxRecDepth 20000 in
theorem M_view (X : mdX G sc0 ar m h0 h) (hR : mdR sc0 ar P E S b P2 E2 S2 F) {j : Int} (rj : r32 j) {k : Int} (rk : r32 k) (hgc : ∀ g, g < 4 → (gdM (S g) ↔ closes (S g))) (hm : ∀ g : Nat, g < 4 → closes (S g) → ∀ a c : Nat, a < (S g).length → c < (S g).length → (dsM (S g) a c ↔ opn (S g) a c)) : Run G mX8_view [.ref m, .int (iN j), .int (iN k)] none h 0 0 (mZ G (k_view S j k) P E S b P2 E2 S2 F m h0) := by
  have rj1 := rj.1
  have rj2 := rj.2
  have rk1 := rk.1
  have rk2 := rk.2
  refine run_of rfl plX8 rfl ?_
  refine e_aload_n dX8_view_0 rfl ?_
  refine e_iconst dX8_view_1 ?_
  refine e_putf pfX8_1 X.obj rfl rfl rfl dX8_view_2 ?_
  refine X.pto (q := 0) (fun h9 X9 => ?_) rfl
  replace X := X9
  clear X9
  replace hR := hR.t0 0
  have ht : uI sc0 0 0 0 = 0 := uI_s _ _ _
  generalize uI sc0 0 0 = sc at X hR ht
  refine e_aload_n dX8_view_5 rfl ?_
  refine e_iload_n dX8_view_6 rfl ?_
  refine e_iload_n dX8_view_7 rfl ?_
  
  by_cases c_1 : pgOK j
  · obtain ⟨g, rfl⟩ : ∃ g : Nat, j = (g : Int) := ⟨j.toNat, by omega⟩
    have hg : g < 4 := by omega
    obtain ⟨s1, s2, s3, s4⟩ := id (hR.2.2.1 g hg)
    by_cases d_k : crOK (S g) k
    · refine e_pureV qcX8_275 X.obj rfl rfl (S_noCorner_t X hR.2.2.1 rj rk c_1 d_k ht) rfl rfl rfl rfl dX8_view_8 ?_
      refine e_if_ne (tgt := 27) ⟨by decide, by decide⟩ dX8_view_11 rfl (fun c_11 => absurd rfl c_11) (fun c_11 => ?_)
      refine e_aload_n dX8_view_14 rfl ?_
      refine e_aload_n dX8_view_15 rfl ?_
      refine e_iload_n dX8_view_16 rfl ?_
      refine e_doesV qcX8_239 X.obj rfl rfl (S_isGood X hR.2.2.1 hg) rfl rfl rfl rfl dX8_view_17 ?_
      intro v h9 q9
      obtain ⟨rfl, sc2, X, hA⟩ := q9
      replace hR := hR.to (hA.wk (by decide) (by decide)) hR.2.2.2.2
      replace ht := (hA.1 0 (by decide)).trans ht
      clear hA
      generalize sc2 = sc at X hR ht
      refine e_iconst dX8_view_20 ?_
      
      by_cases c_g : closes (S g)
      · obtain ⟨a, rfl⟩ : ∃ a : Nat, k = (a : Int) := ⟨k.toNat, by have := d_k.1; omega⟩
        have ha : a < (S g).length := by have := d_k.2; omega
        letI : Decidable (gdM (S g)) := Classical.propDecidable _
        refine e_pureV qcX8_104 X.obj rfl rfl (S_fails_t X ((hgc g hg).mpr c_g) ht) rfl rfl rfl rfl dX8_view_21 ?_
        refine e_if_eq (tgt := 29) ⟨by decide, by decide⟩ dX8_view_24 rfl (fun c_24 => ?_) (fun c_24 => absurd rfl c_24)
        refine e_iconst dX8_view_29 ?_
        refine e_istore_n dX8_view_30 rfl ?_
        refine e_iconst dX8_view_31 ?_
        refine e_istore dX8_view_32 rfl ?_
        rw [show (k_view S (g : Int) (a : Int)) = (0, (vwN (S g) a (S g).length : Int)) from (if_pos c_1).trans ((if_pos d_k).trans (cif_t c_g))]
        exact e_loc [(4, .int (iN (0 : Nat))), (3, .int (iN (vwN (S g) a (0) : Nat))), (0, .ref m), (1, .int (iN g)), (2, .int (iN a))] ⟨rfl, rfl, rfl, rfl, rfl, trivial⟩ (vw_loop8 hg c_g ha hm _ 0 _ _ X hR ht (Nat.zero_add _))
      letI : Decidable (gdM (S g)) := Classical.propDecidable _
      refine e_doesV qcX8_104 X.obj rfl rfl (S_fails_f X (fun w => c_g ((hgc g hg).mp w)) ht ⟨by decide, by decide⟩) rfl rfl rfl rfl dX8_view_21 ?_
      intro v h9 q9
      obtain ⟨rfl, X⟩ := q9
      refine e_if_eq (tgt := 29) ⟨by decide, by decide⟩ dX8_view_24 rfl (fun c_24 => absurd c_24 (by decide)) (fun c_24 => ?_)
      refine e_iconst dX8_view_27 ?_
      refine e_iret rfl dX8_view_28 (by decide) (by decide) ?_
      exact mz (show (k_view S (g : Int) k) = (3, 0) from (((if_pos c_1).trans (if_pos d_k)).trans (cif_f c_g))) ⟨rfl, rfl, _, _, X, hR.t0 _, uI_s _ _ _⟩
    refine e_doesV qcX8_275 X.obj rfl rfl (S_noCorner_f2 X hR.2.2.1 rj rk c_1 d_k ht) rfl rfl rfl rfl dX8_view_8 ?_
    intro v h9 q9
    obtain ⟨rfl, X⟩ := q9
    refine e_if_ne (tgt := 27) ⟨by decide, by decide⟩ dX8_view_11 rfl (fun c_11 => ?_) (fun c_11 => absurd (by decide) c_11)
    refine e_iconst dX8_view_27 ?_
    refine e_iret rfl dX8_view_28 (by decide) (by decide) ?_
    exact mz (show (k_view S (g : Int) k) = (2, 0) from ((if_pos c_1).trans (if_neg d_k))) ⟨rfl, rfl, _, _, X, hR.t0 _, uI_s _ _ _⟩
  refine e_doesV qcX8_275 X.obj rfl rfl (S_noCorner_f1 X rj rk c_1 ht) rfl rfl rfl rfl dX8_view_8 ?_
  intro v h9 q9
  obtain ⟨rfl, X⟩ := q9
  refine e_if_ne (tgt := 27) ⟨by decide, by decide⟩ dX8_view_11 rfl (fun c_11 => ?_) (fun c_11 => absurd (by decide) c_11)
  refine e_iconst dX8_view_27 ?_
  refine e_iret rfl dX8_view_28 (by decide) (by decide) ?_
  exact mz (show (k_view S j k) = (1, 0) from (if_neg c_1)) ⟨rfl, rfl, _, _, X, hR.t0 _, uI_s _ _ _⟩
end MFOURTEEN
