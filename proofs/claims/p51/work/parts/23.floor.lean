/-! Math.floorDiv by a positive number -/
theorem e_ixor {C : g_E} {k n : Nat} {z : Option Nat} {h : g_hp} {pc : Nat} {L : List (Nat × Value)} {st : List Value} {x y : Int32} (hd : decode (g_cc C) pc = .ok (.ixor, 1)) (kk : Ev C k n z h (pc + 1) L (.int (iN (x ^^^ y).toInt) :: st)) : Ev C k n z h pc L (.int y :: .int x :: st) := by
  have e : iN (x ^^^ y).toInt = x ^^^ y := Int32.ofInt_toInt _
  rw [e] at kk
  intro p e s m args below meth c H locs ls hC hS hH hb hl
  exact lv_ixor hC.1 hC.2.1 hd (kk p e s m args below meth c H locs ls hC hS hH hb hl)
theorem xor_neg (a b : Int32) : ((a ^^^ b).toInt < 0) ↔ ¬ (a.toInt < 0 ↔ b.toInt < 0) := by
  have h := BitVec.msb_xor (x := a.toBitVec) (y := b.toBitVec)
  rw [BitVec.msb_eq_toInt, BitVec.msb_eq_toInt, BitVec.msb_eq_toInt] at h
  have e : (a ^^^ b).toInt = (a.toBitVec ^^^ b.toBitVec).toInt := rfl
  have e1 : a.toInt = a.toBitVec.toInt := rfl
  have e2 : b.toInt = b.toBitVec.toInt := rfl
  rw [e, e1, e2]
  clear e e1 e2
  generalize (a.toBitVec ^^^ b.toBitVec).toInt = p at h ⊢
  generalize a.toBitVec.toInt = q at h ⊢
  generalize b.toBitVec.toInt = r at h ⊢
  by_cases hp : p < 0 <;> by_cases hq : q < 0 <;> by_cases hr : r < 0 <;> simp [hp, hq, hr] at h ⊢
/-- the entry to a method of a class that isn't plainly named, but for which nothing is run in its bytecode's place -/
theorem x_ofWF {l : Launch} {y : MethodName} {ws ws' : List Cond} {rm : Room} {Pc : Array Value → State → Prop} {Qc : Array Value → State → Outcome → State → Prop} {XC : String → State → State → Prop} {mc ms : Nat} {free : Addr → Prop} {cc : ByteArray} {maxL : Nat} {ret : Option FieldType}
    (hy : plainFor y = true) (hw : ws = Cond.code y cc maxL ret :: ws')
    (body : ∀ p e s m args below meth c s₁, BodyLoose p l y (headSpec ws rm) cc maxL ret e s m args below meth c s₁ → c.maxLocals = maxL → (∀ x ∈ c.exceptionTable.toList, False) → Pc args s →
      W p l e (headSpec ws rm).room s m args below meth c s.heap [] 0 0 (vx_MQ below Qc XC args s mc ms free) (entryFrame m args maxL)) : vx_Met l y ws rm Pc Qc XC mc ms free := by
  refine MetFree.of_bodySF (code := cc) (maxLocals := maxL) (ret := ret) hy ?_ ?_
  · intro args s m h hn
    obtain ⟨meth, c, h1, h2, h3, h4, h5, h6, -, -⟩ := Cond.code_spec hn (atoms_spec (ws := ws) h _ (by rw [hw]; exact List.mem_cons_self))
    exact ⟨meth, c, h1, h2, h3, h4, h5, h6⟩
  · intro p e s m args below meth c s₁ B hml hP _
    have hh0 : s₁.heap = s.heap := by rw [B.state]; rfl
    have ht : ∀ x ∈ c.exceptionTable.toList, False := by
      obtain ⟨meth9, c9, h1, h2, -, -, -, -, h7, -⟩ := Cond.code_spec B.named (atoms_spec (ws := ws) B.pre _ (by rw [hw]; exact List.mem_cons_self))
      cases Option.some.inj (h1.symm.trans B.method)
      cases Option.some.inj (h2.symm.trans (Stand.of_body B).code)
      intro x hx
      rw [Array.isEmpty_iff.mp h7] at hx
      cases hx
    obtain ⟨t, a1, o, b1, b2, b3⟩ := body p e s m args below meth c s₁ B hml ht hP s₁ hh0 (Stand.of_body B)
    exact ⟨t, o, a1, b1, b2, b3⟩
theorem run_ofF {G : g_X} {M : g_M} {av : List Value} {z : Option Nat} {h : g_hp} {mc ms : Nat} {Z : g_Z} (hn : M.2.2.2.2.2 = none) (hp : plainFor M.1 = true) (hs : Nat.ble (lg_sl av).length M.2.2.1 = true)
    (body : Ev (g_B G M mc ms Z) 0 0 z h 0 (lv_args 0 av) []) : Run G M av z h mc ms Z := by
  unfold Run
  refine x_ofWF (ws' := GW) (cc := M.2.1) (maxL := M.2.2.1) (ret := M.2.2.2.1) hp (by unfold g_ws g_wc; rw [hn]) ?_
  intro p e s m args below meth c s₁ B hml ht hv
  obtain ⟨rfl, hH, hU⟩ := hv
  have hts := atoms_spec (ws := g_ws M) B.pre
  rw [lg_entry_eq]
  exact body p e s m av.toArray below meth c s.heap [] _ ⟨B.exec, B.bytes, hml, B.returns, B.notSynchronized, findClass_of_methodNamed B.named, fun w hw => hts w (List.mem_cons_of_mem _ hw), hU, (name_of_methodNamed B.named B.method).1, by rw [hn]; exact List.eq_nil_iff_forall_not_mem.mpr ht⟩ va_S.rf hH hH.1 (g_L.entry av (Nat.le_of_ble_eq_true hs))
theorem i32_r (a : Int32) : r32 a.toInt := by
  have h1 := Int32.le_toInt a
  have h2 := Int32.toInt_lt a
  constructor <;> omega
theorem fl_0 {x y : Int} (h0 : 0 < y) (hx : 0 ≤ x) : x.tdiv y = x / y := Int.tdiv_eq_ediv_of_nonneg hx
theorem fl_eq {x y : Int} (h0 : 0 < y) (h : x.tdiv y * y = x) : x.tdiv y = x / y := by
  have := Int.mul_ediv_cancel (x.tdiv y) (show y ≠ 0 by omega)
  rw [h] at this
  exact this.symm
theorem fl_ne {x y : Int} (h0 : 0 < y) (hx : x < 0) (h : ¬ x.tdiv y * y = x) : x.tdiv y - 1 = x / y := by
  rw [Int.tdiv_eq_ediv]
  have hd : ¬ y ∣ x := fun w => h (Int.tdiv_mul_cancel w)
  rw [if_neg (by rintro (w | w); omega; exact hd w), Int.sign_eq_one_of_pos h0]
  omega
set_option maxRecDepth 20000 in
theorem S_floorDiv {G : g_X} {h : g_hp} {x y : Int} (hx : -1000000000 ≤ x ∧ x ≤ 1000000000) (hy : 0 < y ∧ y ≤ 10000) : Pure G mJ9_floorDiv_7cf53 [.int (iN x), .int (iN y)] h (.int (iN (x / y))) := by
  have q1 := Int.mul_tdiv_add_tmod x y
  have q2 := Int.tmod_lt_of_pos x hy.1
  have q3 := Int.lt_tmod_of_pos x hy.1
  have q4 : y * x.tdiv y = x.tdiv y * y := Int.mul_comm _ _
  have sx : (iN x).toInt = x := iN_toInt ⟨by omega, by omega⟩
  have sy : (iN y).toInt = y := iN_toInt ⟨by omega, by omega⟩
  have sn := xor_neg (iN x) (iN y)
  rw [sx, sy] at sn
  intro z
  refine run_ofF rfl (by decide +kernel) rfl ?_
  refine e_iload_n dJ9_floorDiv_7cf53_0 rfl ?_
  refine e_iload_n dJ9_floorDiv_7cf53_1 rfl ?_
  refine e_idiv ⟨by omega, by omega⟩ ⟨by omega, by omega⟩ (by omega) dJ9_floorDiv_7cf53_2 ?_
  refine e_istore_n dJ9_floorDiv_7cf53_3 rfl ?_
  refine e_iload_n dJ9_floorDiv_7cf53_4 rfl ?_
  refine e_iload_n dJ9_floorDiv_7cf53_5 rfl ?_
  refine e_ixor dJ9_floorDiv_7cf53_6 ?_
  refine e_if_ge (tgt := 21) (i32_r _) dJ9_floorDiv_7cf53_7 rfl (fun c => ?_) (fun c => ?_)
  · refine e_iload_n dJ9_floorDiv_7cf53_21 rfl ?_
    refine e_iret rfl dJ9_floorDiv_7cf53_22 (by decide) (by decide) ?_
    have hx0 : 0 ≤ x := by
      rcases Int.lt_or_le x 0 with w | w
      · exact absurd (sn.mpr (fun v => absurd (v.mp w) (by omega))) (by omega)
      · exact w
    exact ⟨by rw [fl_0 hy.1 hx0], rfl, rfl⟩
  · have hx0 : x < 0 := by
      rcases Int.lt_or_le x 0 with w | w
      · exact w
      · exact absurd ⟨fun v => absurd v (by omega), fun v => absurd v (by omega)⟩ (sn.mp (by omega))
    refine e_iload_n dJ9_floorDiv_7cf53_10 rfl ?_
    refine e_iload_n dJ9_floorDiv_7cf53_11 rfl ?_
    refine e_imul dJ9_floorDiv_7cf53_12 ?_
    refine e_iload_n dJ9_floorDiv_7cf53_13 rfl ?_
    refine e_icmp_eq (tgt := 21) ⟨by omega, by omega⟩ ⟨by omega, by omega⟩ dJ9_floorDiv_7cf53_14 rfl (fun c2 => ?_) (fun c2 => ?_)
    · refine e_iload_n dJ9_floorDiv_7cf53_21 rfl ?_
      refine e_iret rfl dJ9_floorDiv_7cf53_22 (by decide) (by decide) ?_
      exact ⟨by rw [fl_eq hy.1 c2], rfl, rfl⟩
    · refine e_iload_n dJ9_floorDiv_7cf53_17 rfl ?_
      refine e_iconst dJ9_floorDiv_7cf53_18 ?_
      refine e_isub dJ9_floorDiv_7cf53_19 ?_
      refine e_iret rfl dJ9_floorDiv_7cf53_20 (by decide) (by decide) ?_
      have e3 := fl_ne hy.1 hx0 c2
      exact ⟨by rw [← e3], rfl, rfl⟩
