/-! A long body is decoded piece by piece: what an instruction is depends on its own bytes alone -/
abbrev rdX (α : Type) : Type := Reader DecodeError α
theorem u1_ok {c : ByteArray} {p : Nat} (h : p < c.size) : (Reader.u1 : rdX Nat) c p = .ok ((c[p]).toNat, p+1) := by
  unfold Reader.u1
  show (dite (p < c.size) (fun h => ((do set (p+1); Pure.pure (c[p]).toNat) : rdX Nat)) (fun _ => (throw (HasTruncated.truncated p) : rdX Nat))) c p = _
  rw [dif_pos h]
  rfl
theorem u1_no {c : ByteArray} {p : Nat} (h : ¬ p < c.size) : (Reader.u1 : rdX Nat) c p = .error (HasTruncated.truncated p) := by
  unfold Reader.u1
  show (dite (p < c.size) (fun h => ((do set (p+1); Pure.pure (c[p]).toNat) : rdX Nat)) (fun _ => (throw (HasTruncated.truncated p) : rdX Nat))) c p = _
  rw [dif_neg h]
  rfl
/-- from p on the bytes c begin as c' from q on -/
def agB (c c' : ByteArray) (p q : Nat) : Prop := ∀ i, q + i < c'.size → p + i < c.size ∧ c[p + i]? = c'[q + i]?
def Sm {α : Type} (r1 r2 : rdX α) : Prop := ∀ (c c' : ByteArray) (p q : Nat) (a : α) (q' : Nat), agB c c' p q → r2 c' q = .ok (a, q') → ∃ n, q' = q + n ∧ r1 c p = .ok (a, p + n)
def SmO (ops : List Nat) {α : Type} (r1 r2 : rdX α) : Prop := ∀ (c c' : ByteArray) (p q : Nat) (a : α) (q' : Nat), agB c c' p q → (∃ h : q < c'.size, (c'[q]).toNat ∈ ops) → r2 c' q = .ok (a, q') → ∃ n, q' = q + n ∧ r1 c p = .ok (a, p + n)
theorem agB.go {c c' : ByteArray} {p q : Nat} (h : agB c c' p q) (n : Nat) : agB c c' (p + n) (q + n) := fun i hi => by
  have := h (n + i) (by omega)
  rw [Nat.add_assoc, Nat.add_assoc]
  exact this
theorem agB.at {c c' : ByteArray} {p q : Nat} (h : agB c c' p q) (h2 : q < c'.size) : ∃ h1 : p < c.size, c[p] = c'[q] := by
  obtain ⟨x, y⟩ := h 0 h2
  refine ⟨x, ?_⟩
  rw [getElem?_pos c (p + 0) x, getElem?_pos c' (q + 0) h2] at y
  exact Option.some.inj y
theorem Sm_u1 : Sm (Reader.u1 : rdX Nat) Reader.u1 := fun c c' p q a q' ha hr => by
  by_cases h : q < c'.size
  · rw [u1_ok h] at hr
    obtain ⟨h1, e⟩ := ha.at h
    cases hr
    exact ⟨1, rfl, by rw [u1_ok h1, e]⟩
  · rw [u1_no h] at hr
    cases hr
theorem Sm_pure {α : Type} (a : α) : Sm (Pure.pure a : rdX α) (Pure.pure a) := fun c c' p q a' q' ha hr => by
  cases hr
  exact ⟨0, rfl, rfl⟩
theorem Sm_bind {α β : Type} {r1 r2 : rdX α} {f1 f2 : α → rdX β} (hr : Sm r1 r2) (hf : ∀ a, Sm (f1 a) (f2 a)) : Sm (r1 >>= f1) (r2 >>= f2) := fun c c' p q b q' ha h => by
  have h' : (Except.bind (r2 c' q) fun x => f2 x.1 c' x.2) = .ok (b, q') := h
  show ∃ n, q' = q + n ∧ (Except.bind (r1 c p) fun x => f1 x.1 c x.2) = .ok (b, p + n)
  cases e : r2 c' q with
  | error x =>
    rw [e] at h'
    cases h'
  | ok x =>
    obtain ⟨a, q1⟩ := x
    rw [e] at h'
    obtain ⟨n, rfl, e1⟩ := hr c c' p q a q1 ha e
    obtain ⟨m, rfl, e2⟩ := hf a c c' (p + n) (q + n) b q' (ha.go n) h'
    rw [e1]
    exact ⟨n + m, Nat.add_assoc _ _ _, by rw [← Nat.add_assoc]; exact e2⟩
theorem Sm_map {α β : Type} {r1 r2 : rdX α} (f : α → β) (hr : Sm r1 r2) : Sm (f <$> r1) (f <$> r2) := fun c c' p q b q' ha h => by
  have h' : (Except.bind (r2 c' q) fun x => .ok (f x.1, x.2)) = .ok (b, q') := h
  show ∃ n, q' = q + n ∧ (Except.bind (r1 c p) fun x => .ok (f x.1, x.2)) = .ok (b, p + n)
  cases e : r2 c' q with
  | error x =>
    rw [e] at h'
    cases h'
  | ok x =>
    obtain ⟨a, q1⟩ := x
    rw [e] at h'
    obtain ⟨n, rfl, e1⟩ := hr c c' p q a q1 ha e
    cases h'
    rw [e1]
    exact ⟨n, rfl, rfl⟩
theorem Sm_u2 : Sm (Reader.u2 : rdX Nat) Reader.u2 := Sm_bind Sm_u1 fun _ => Sm_bind Sm_u1 fun _ => Sm_pure _
theorem Sm_s1 : Sm (Reader.s1 : rdX Int) Reader.s1 := Sm_map _ Sm_u1
theorem Sm_s2 : Sm (Reader.s2 : rdX Int) Reader.s2 := Sm_map _ Sm_u2
theorem SmO_first {α : Type} {f1 f2 : Nat → rdX α} (ops : List Nat) (H : ∀ op ∈ ops, Sm (f1 op) (f2 op)) : SmO ops (Reader.u1 >>= f1) (Reader.u1 >>= f2) := fun c c' p q b q' ha ho h => by
  obtain ⟨h2, hop⟩ := ho
  have h' : (Except.bind ((Reader.u1 : rdX Nat) c' q) fun x => f2 x.1 c' x.2) = .ok (b, q') := h
  show ∃ n, q' = q + n ∧ (Except.bind ((Reader.u1 : rdX Nat) c p) fun x => f1 x.1 c x.2) = .ok (b, p + n)
  obtain ⟨h1, e⟩ := ha.at h2
  rw [u1_ok h2] at h'
  obtain ⟨m, rfl, e2⟩ := H _ hop c c' (p + 1) (q + 1) b q' (ha.go 1) h'
  rw [u1_ok h1, e]
  exact ⟨1 + m, Nat.add_assoc _ _ _, by rw [← Nat.add_assoc]; exact e2⟩
abbrev lwOps : List Nat := [3, 4, 5, 6, 7, 8, 9, 10, 16, 21, 22, 24, 25, 42, 43, 44, 45, 46, 47, 49, 54, 55, 57, 58, 76, 77, 78, 89, 96, 100, 126, 132, 133, 141, 148, 151, 153, 154, 159, 163, 167, 172, 182, 183, 184, 187, 190]
set_option maxRecDepth 20000 in
theorem Sm_instr (p q : Nat) : SmO lwOps (Decoder.instr p) (Decoder.instr q) := by
  unfold Decoder.instr
  refine SmO_first _ ?_
  repeat' (first | exact fun op h => absurd h List.not_mem_nil | refine List.forall_mem_cons.mpr ⟨?_, ?_⟩)
  all_goals first
    | exact Sm_pure _
    | exact Sm_bind Sm_u1 fun _ => Sm_pure _
    | exact Sm_bind Sm_s2 fun _ => Sm_pure _
    | exact Sm_bind Sm_u2 fun _ => Sm_pure _
    | exact Sm_bind Sm_s1 fun _ => Sm_pure _
    | exact Sm_bind Sm_u1 fun _ => Sm_bind Sm_s1 fun _ => Sm_pure _
theorem dec_sm {c c' : ByteArray} {p q : Nat} {i : Instr} {n : Nat} (ha : agB c c' p q) (ho : ∃ h : q < c'.size, (c'[q]).toNat ∈ lwOps) (h : decode c' q = .ok (i, n)) : decode c p = .ok (i, n) := by
  have h' : (Except.bind ((Decoder.instr q) c' q) fun x => .ok (x.1, x.2 - q)) = .ok (i, n) := h
  show (Except.bind ((Decoder.instr p) c p) fun x => .ok (x.1, x.2 - p)) = .ok (i, n)
  cases e : (Decoder.instr q) c' q with
  | error x =>
    rw [e] at h'
    cases h'
  | ok x =>
    obtain ⟨a, q1⟩ := x
    rw [e] at h'
    obtain ⟨m, rfl, e1⟩ := Sm_instr p q c c' p q a q1 ha ho e
    rw [e1]
    have h9 : (Except.ok (a, q + m - q) : Except DecodeError (Instr × Nat)) = .ok (i, n) := h'
    show (Except.ok (a, p + m - p) : Except DecodeError (Instr × Nat)) = .ok (i, n)
    rw [← h9, Nat.add_sub_cancel_left, Nat.add_sub_cancel_left]
theorem agB_of {c c' : ByteArray} (o : Nat) (h : (c.data.toList.drop o).take c'.data.toList.length = c'.data.toList) (q : Nat) : agB c c' (o + q) q := fun i hi => by
  have hj : q + i < c'.data.toList.length := by rw [Array.length_toList]; exact hi
  have e00 : ((c.data.toList.drop o).take c'.data.toList.length)[q + i]? = (c.data.toList.drop o)[q + i]? := List.getElem?_take_of_lt hj
  rw [h] at e00
  have e1 : c'.data.toList[q + i]? = c.data.toList[o + (q + i)]? := e00.trans List.getElem?_drop
  have e2 := List.getElem?_eq_getElem hj
  have e3 : o + (q + i) < c.data.toList.length := (List.getElem?_eq_some_iff.mp (e1.symm.trans e2)).1
  have e4 := List.getElem?_eq_getElem e3
  have e5 : o + q + i < c.size := by rw [Nat.add_assoc]; rw [Array.length_toList] at e3; exact e3
  refine ⟨e5, ?_⟩
  rw [getElem?_pos c _ e5, getElem?_pos c' _ hi]
  have e6 := e4.symm.trans (e1.symm.trans e2)
  have e7 := Option.some.inj e6
  refine congrArg some ?_
  show c.data[o + q + i] = c'.data[q + i]
  rw [← Array.getElem_toList, ← Array.getElem_toList]
  simp only [Nat.add_assoc]
  exact e7
def opB (c : ByteArray) (q : Nat) : Bool := match c.data.toList[q]? with
  | some b => lwOps.contains b.toNat
  | none => false
theorem opB_of {c : ByteArray} {q : Nat} (h : opB c q = true) : ∃ h : q < c.size, (c[q]).toNat ∈ lwOps := by
  unfold opB at h
  split at h
  · rename_i b hb
    obtain ⟨h1, h2⟩ := List.getElem?_eq_some_iff.mp hb
    have h3 : q < c.size := by rw [Array.length_toList] at h1; exact h1
    refine ⟨h3, ?_⟩
    have h4 : c[q] = b := by
      show c.data[q] = b
      rw [← Array.getElem_toList]
      exact h2
    rw [h4]
    exact List.contains_iff_mem.mp h
  · cases h
theorem sl_row {T : List (Nat × Instr × Nat)} {c' : ByteArray} {o : Nat} (ha : ∀ q, agB cL_law c' (o + q) q) (h : T.all (fun r => opB c' r.1 && decide (decode c' r.1 = .ok (r.2.1, r.2.2))) = true) {i : Nat} {r : Nat × Instr × Nat} (hr : T[i]? = some r) : decode cL_law (o + r.1) = .ok (r.2.1, r.2.2) := by
  have h2 := List.all_eq_true.mp h _ (List.mem_of_getElem? hr)
  obtain ⟨a, b⟩ := (Bool.and_eq_true_iff).mp h2
  exact dec_sm (ha r.1) (opB_of a) (of_decide_eq_true b)
set_option maxRecDepth 20000 in
theorem dL_law_17 : decode cL_law 17 = .ok (.newarray .long, 2) := by decide +kernel
set_option maxRecDepth 20000 in
theorem dL_law_21 : decode cL_law 21 = .ok (.newarray .double, 2) := by decide +kernel
set_option maxRecDepth 20000 in
theorem dL_law_44 : decode cL_law 44 = .ok (.tableswitch 2913 0 47 #[208, 288, 344, 412, 468, 536, 592, 672, 728, 796, 864, 920, 988, 1044, 1057, 1141, 1154, 1167, 1180, 1217, 1288, 1368, 1424, 1487, 1543, 1599, 1655, 1735, 1803, 1859, 1927, 2014, 2082, 2174, 2187, 2262, 2275, 2331, 2415, 2499, 2567, 2635, 2710, 2723, 2767, 2780, 2857, 2900], 208) := by decide +kernel
def ck_0 : ByteArray := .mk #[0xbb, 0x00, 0x08, 0x59, 0xb7, 0x00, 0x8b, 0x4c, 0xbb, 0x00, 0x8c, 0x59, 0xb7, 0x00, 0x8e, 0x4d, 0x04, 0xbc, 0x0b, 0x4e, 0x04, 0xbc, 0x07, 0x3a, 0x04, 0x03, 0x36, 0x05, 0x15, 0x05, 0x2a, 0xbe, 0x08, 0x64, 0xa3, 0x0b, 0x71, 0x2a, 0x15, 0x05, 0x2e, 0x10, 0x3f, 0x7e, 0xaa, 0x00, 0x00, 0x00, 0x00, 0x00, 0x0b, 0x61, 0x00, 0x00, 0x00, 0x00, 0x00, 0x00, 0x00, 0x2f, 0x00, 0x00, 0x00, 0xd0, 0x00, 0x00, 0x01, 0x20]
set_option maxRecDepth 20000 in
theorem agL_0 : ∀ q, agB cL_law ck_0 (0 + q) q := agB_of 0 (by decide +kernel)
def tL_0 : List (Nat × Instr × Nat) := [(0, .new 8, 3), (3, .dup, 1), (4, .invokespecial 139, 3), (7, .astore_n 1, 1), (8, .new 140, 3), (11, .dup, 1), (12, .invokespecial 142, 3), (15, .astore_n 2, 1), (16, .iconst 1, 1), (19, .astore_n 3, 1), (20, .iconst 1, 1), (23, .astore 4, 2), (25, .iconst 0, 1), (26, .istore 5, 2), (28, .iload 5, 2), (30, .aload_n 0, 1), (31, .arraylength, 1), (32, .iconst 5, 1), (33, .isub, 1), (34, .if_icmp .gt 2929, 3), (37, .aload_n 0, 1), (38, .iload 5, 2), (40, .iaload, 1), (41, .bipush 63, 2), (43, .iand, 1)]
theorem gL_0 : tL_0.all (fun r => opB ck_0 r.1 && decide (decode ck_0 r.1 = .ok (r.2.1, r.2.2))) = true := by decide +kernel
theorem dL_law_0 : decode cL_law 0 = .ok (.new 8, 3) := sl_row agL_0 gL_0 (i := 0) (r := (0, .new 8, 3)) rfl
theorem dL_law_3 : decode cL_law 3 = .ok (.dup, 1) := sl_row agL_0 gL_0 (i := 1) (r := (3, .dup, 1)) rfl
theorem dL_law_4 : decode cL_law 4 = .ok (.invokespecial 139, 3) := sl_row agL_0 gL_0 (i := 2) (r := (4, .invokespecial 139, 3)) rfl
theorem dL_law_7 : decode cL_law 7 = .ok (.astore_n 1, 1) := sl_row agL_0 gL_0 (i := 3) (r := (7, .astore_n 1, 1)) rfl
theorem dL_law_8 : decode cL_law 8 = .ok (.new 140, 3) := sl_row agL_0 gL_0 (i := 4) (r := (8, .new 140, 3)) rfl
theorem dL_law_11 : decode cL_law 11 = .ok (.dup, 1) := sl_row agL_0 gL_0 (i := 5) (r := (11, .dup, 1)) rfl
theorem dL_law_12 : decode cL_law 12 = .ok (.invokespecial 142, 3) := sl_row agL_0 gL_0 (i := 6) (r := (12, .invokespecial 142, 3)) rfl
theorem dL_law_15 : decode cL_law 15 = .ok (.astore_n 2, 1) := sl_row agL_0 gL_0 (i := 7) (r := (15, .astore_n 2, 1)) rfl
theorem dL_law_16 : decode cL_law 16 = .ok (.iconst 1, 1) := sl_row agL_0 gL_0 (i := 8) (r := (16, .iconst 1, 1)) rfl
theorem dL_law_19 : decode cL_law 19 = .ok (.astore_n 3, 1) := sl_row agL_0 gL_0 (i := 9) (r := (19, .astore_n 3, 1)) rfl
theorem dL_law_20 : decode cL_law 20 = .ok (.iconst 1, 1) := sl_row agL_0 gL_0 (i := 10) (r := (20, .iconst 1, 1)) rfl
theorem dL_law_23 : decode cL_law 23 = .ok (.astore 4, 2) := sl_row agL_0 gL_0 (i := 11) (r := (23, .astore 4, 2)) rfl
theorem dL_law_25 : decode cL_law 25 = .ok (.iconst 0, 1) := sl_row agL_0 gL_0 (i := 12) (r := (25, .iconst 0, 1)) rfl
theorem dL_law_26 : decode cL_law 26 = .ok (.istore 5, 2) := sl_row agL_0 gL_0 (i := 13) (r := (26, .istore 5, 2)) rfl
theorem dL_law_28 : decode cL_law 28 = .ok (.iload 5, 2) := sl_row agL_0 gL_0 (i := 14) (r := (28, .iload 5, 2)) rfl
theorem dL_law_30 : decode cL_law 30 = .ok (.aload_n 0, 1) := sl_row agL_0 gL_0 (i := 15) (r := (30, .aload_n 0, 1)) rfl
theorem dL_law_31 : decode cL_law 31 = .ok (.arraylength, 1) := sl_row agL_0 gL_0 (i := 16) (r := (31, .arraylength, 1)) rfl
theorem dL_law_32 : decode cL_law 32 = .ok (.iconst 5, 1) := sl_row agL_0 gL_0 (i := 17) (r := (32, .iconst 5, 1)) rfl
theorem dL_law_33 : decode cL_law 33 = .ok (.isub, 1) := sl_row agL_0 gL_0 (i := 18) (r := (33, .isub, 1)) rfl
theorem dL_law_34 : decode cL_law 34 = .ok (.if_icmp .gt 2929, 3) := sl_row agL_0 gL_0 (i := 19) (r := (34, .if_icmp .gt 2929, 3)) rfl
theorem dL_law_37 : decode cL_law 37 = .ok (.aload_n 0, 1) := sl_row agL_0 gL_0 (i := 20) (r := (37, .aload_n 0, 1)) rfl
theorem dL_law_38 : decode cL_law 38 = .ok (.iload 5, 2) := sl_row agL_0 gL_0 (i := 21) (r := (38, .iload 5, 2)) rfl
theorem dL_law_40 : decode cL_law 40 = .ok (.iaload, 1) := sl_row agL_0 gL_0 (i := 22) (r := (40, .iaload, 1)) rfl
theorem dL_law_41 : decode cL_law 41 = .ok (.bipush 63, 2) := sl_row agL_0 gL_0 (i := 23) (r := (41, .bipush 63, 2)) rfl
theorem dL_law_43 : decode cL_law 43 = .ok (.iand, 1) := sl_row agL_0 gL_0 (i := 24) (r := (43, .iand, 1)) rfl
def ck_3 : ByteArray := .mk #[0x00, 0x00, 0x08, 0x7e, 0x00, 0x00, 0x08, 0x8b, 0x00, 0x00, 0x08, 0xd6, 0x00, 0x00, 0x08, 0xe3, 0x00, 0x00, 0x09, 0x1b, 0x00, 0x00, 0x09, 0x6f, 0x00, 0x00, 0x09, 0xc3, 0x00, 0x00, 0x0a, 0x07, 0x00, 0x00, 0x0a, 0x4b, 0x00, 0x00, 0x0a, 0x96, 0x00, 0x00, 0x0a, 0xa3, 0x00, 0x00, 0x0a, 0xcf, 0x00, 0x00, 0x0a, 0xdc, 0x00, 0x00, 0x0b, 0x29, 0x00, 0x00, 0x0b, 0x54, 0x2b, 0x2a, 0x15, 0x05, 0x04, 0x60, 0x2e, 0x2a]
set_option maxRecDepth 20000 in
theorem agL_3 : ∀ q, agB cL_law ck_3 (192 + q) q := agB_of 192 (by decide +kernel)
def tL_3 : List (Nat × Instr × Nat) := [(60, .aload_n 1, 1), (61, .aload_n 0, 1), (62, .iload 5, 2)]
theorem gL_3 : tL_3.all (fun r => opB ck_3 r.1 && decide (decode ck_3 r.1 = .ok (r.2.1, r.2.2))) = true := by decide +kernel
theorem dL_law_252 : decode cL_law 252 = .ok (.aload_n 1, 1) := sl_row agL_3 gL_3 (i := 0) (r := (60, .aload_n 1, 1)) rfl
theorem dL_law_253 : decode cL_law 253 = .ok (.aload_n 0, 1) := sl_row agL_3 gL_3 (i := 1) (r := (61, .aload_n 0, 1)) rfl
theorem dL_law_254 : decode cL_law 254 = .ok (.iload 5, 2) := sl_row agL_3 gL_3 (i := 2) (r := (62, .iload 5, 2)) rfl
def ck_4 : ByteArray := .mk #[0x04, 0x60, 0x2e, 0x2a, 0x15, 0x05, 0x05, 0x60, 0x2e, 0x2a, 0x15, 0x05, 0x06, 0x60, 0x2e, 0x2d, 0xb8, 0x00, 0x8f, 0x36, 0x06, 0x2c, 0x2a, 0x15, 0x05, 0x04, 0x60, 0x2e, 0x2a, 0x15, 0x05, 0x05, 0x60, 0x2e, 0x2a, 0x15, 0x05, 0x06, 0x60, 0x2e, 0xb6, 0x00, 0x94, 0x36, 0x07, 0x2c, 0xb6, 0x00, 0x95, 0x15, 0x06, 0x9f, 0x00, 0x05, 0x03, 0xac, 0x15, 0x06, 0x9a, 0x00, 0x0f, 0x2d, 0x03, 0x2f, 0x15, 0x07, 0x85, 0x94]
set_option maxRecDepth 20000 in
theorem agL_4 : ∀ q, agB cL_law ck_4 (256 + q) q := agB_of 256 (by decide +kernel)
def tL_4 : List (Nat × Instr × Nat) := [(0, .iconst 1, 1), (1, .iadd, 1), (2, .iaload, 1), (3, .aload_n 0, 1), (4, .iload 5, 2), (6, .iconst 2, 1), (7, .iadd, 1), (8, .iaload, 1), (9, .aload_n 0, 1), (10, .iload 5, 2), (12, .iconst 3, 1), (13, .iadd, 1), (14, .iaload, 1), (15, .aload_n 3, 1), (16, .invokestatic 143, 3), (19, .istore 6, 2), (21, .aload_n 2, 1), (22, .aload_n 0, 1), (23, .iload 5, 2), (25, .iconst 1, 1), (26, .iadd, 1), (27, .iaload, 1), (28, .aload_n 0, 1), (29, .iload 5, 2), (31, .iconst 2, 1), (32, .iadd, 1), (33, .iaload, 1), (34, .aload_n 0, 1), (35, .iload 5, 2), (37, .iconst 3, 1), (38, .iadd, 1), (39, .iaload, 1), (40, .invokevirtual 148, 3), (43, .istore 7, 2), (45, .aload_n 2, 1), (46, .invokevirtual 149, 3), (49, .iload 6, 2), (51, .if_icmp .eq 5, 3), (54, .iconst 0, 1), (55, .ireturn, 1), (56, .iload 6, 2), (58, .ifCond .ne 15, 3), (61, .aload_n 3, 1), (62, .iconst 0, 1), (63, .laload, 1)]
theorem gL_4 : tL_4.all (fun r => opB ck_4 r.1 && decide (decode ck_4 r.1 = .ok (r.2.1, r.2.2))) = true := by decide +kernel
theorem dL_law_256 : decode cL_law 256 = .ok (.iconst 1, 1) := sl_row agL_4 gL_4 (i := 0) (r := (0, .iconst 1, 1)) rfl
theorem dL_law_257 : decode cL_law 257 = .ok (.iadd, 1) := sl_row agL_4 gL_4 (i := 1) (r := (1, .iadd, 1)) rfl
theorem dL_law_258 : decode cL_law 258 = .ok (.iaload, 1) := sl_row agL_4 gL_4 (i := 2) (r := (2, .iaload, 1)) rfl
theorem dL_law_259 : decode cL_law 259 = .ok (.aload_n 0, 1) := sl_row agL_4 gL_4 (i := 3) (r := (3, .aload_n 0, 1)) rfl
theorem dL_law_260 : decode cL_law 260 = .ok (.iload 5, 2) := sl_row agL_4 gL_4 (i := 4) (r := (4, .iload 5, 2)) rfl
theorem dL_law_262 : decode cL_law 262 = .ok (.iconst 2, 1) := sl_row agL_4 gL_4 (i := 5) (r := (6, .iconst 2, 1)) rfl
theorem dL_law_263 : decode cL_law 263 = .ok (.iadd, 1) := sl_row agL_4 gL_4 (i := 6) (r := (7, .iadd, 1)) rfl
theorem dL_law_264 : decode cL_law 264 = .ok (.iaload, 1) := sl_row agL_4 gL_4 (i := 7) (r := (8, .iaload, 1)) rfl
theorem dL_law_265 : decode cL_law 265 = .ok (.aload_n 0, 1) := sl_row agL_4 gL_4 (i := 8) (r := (9, .aload_n 0, 1)) rfl
theorem dL_law_266 : decode cL_law 266 = .ok (.iload 5, 2) := sl_row agL_4 gL_4 (i := 9) (r := (10, .iload 5, 2)) rfl
theorem dL_law_268 : decode cL_law 268 = .ok (.iconst 3, 1) := sl_row agL_4 gL_4 (i := 10) (r := (12, .iconst 3, 1)) rfl
theorem dL_law_269 : decode cL_law 269 = .ok (.iadd, 1) := sl_row agL_4 gL_4 (i := 11) (r := (13, .iadd, 1)) rfl
theorem dL_law_270 : decode cL_law 270 = .ok (.iaload, 1) := sl_row agL_4 gL_4 (i := 12) (r := (14, .iaload, 1)) rfl
theorem dL_law_271 : decode cL_law 271 = .ok (.aload_n 3, 1) := sl_row agL_4 gL_4 (i := 13) (r := (15, .aload_n 3, 1)) rfl
theorem dL_law_272 : decode cL_law 272 = .ok (.invokestatic 143, 3) := sl_row agL_4 gL_4 (i := 14) (r := (16, .invokestatic 143, 3)) rfl
theorem dL_law_275 : decode cL_law 275 = .ok (.istore 6, 2) := sl_row agL_4 gL_4 (i := 15) (r := (19, .istore 6, 2)) rfl
theorem dL_law_277 : decode cL_law 277 = .ok (.aload_n 2, 1) := sl_row agL_4 gL_4 (i := 16) (r := (21, .aload_n 2, 1)) rfl
theorem dL_law_278 : decode cL_law 278 = .ok (.aload_n 0, 1) := sl_row agL_4 gL_4 (i := 17) (r := (22, .aload_n 0, 1)) rfl
theorem dL_law_279 : decode cL_law 279 = .ok (.iload 5, 2) := sl_row agL_4 gL_4 (i := 18) (r := (23, .iload 5, 2)) rfl
theorem dL_law_281 : decode cL_law 281 = .ok (.iconst 1, 1) := sl_row agL_4 gL_4 (i := 19) (r := (25, .iconst 1, 1)) rfl
theorem dL_law_282 : decode cL_law 282 = .ok (.iadd, 1) := sl_row agL_4 gL_4 (i := 20) (r := (26, .iadd, 1)) rfl
theorem dL_law_283 : decode cL_law 283 = .ok (.iaload, 1) := sl_row agL_4 gL_4 (i := 21) (r := (27, .iaload, 1)) rfl
theorem dL_law_284 : decode cL_law 284 = .ok (.aload_n 0, 1) := sl_row agL_4 gL_4 (i := 22) (r := (28, .aload_n 0, 1)) rfl
theorem dL_law_285 : decode cL_law 285 = .ok (.iload 5, 2) := sl_row agL_4 gL_4 (i := 23) (r := (29, .iload 5, 2)) rfl
theorem dL_law_287 : decode cL_law 287 = .ok (.iconst 2, 1) := sl_row agL_4 gL_4 (i := 24) (r := (31, .iconst 2, 1)) rfl
theorem dL_law_288 : decode cL_law 288 = .ok (.iadd, 1) := sl_row agL_4 gL_4 (i := 25) (r := (32, .iadd, 1)) rfl
theorem dL_law_289 : decode cL_law 289 = .ok (.iaload, 1) := sl_row agL_4 gL_4 (i := 26) (r := (33, .iaload, 1)) rfl
theorem dL_law_290 : decode cL_law 290 = .ok (.aload_n 0, 1) := sl_row agL_4 gL_4 (i := 27) (r := (34, .aload_n 0, 1)) rfl
theorem dL_law_291 : decode cL_law 291 = .ok (.iload 5, 2) := sl_row agL_4 gL_4 (i := 28) (r := (35, .iload 5, 2)) rfl
theorem dL_law_293 : decode cL_law 293 = .ok (.iconst 3, 1) := sl_row agL_4 gL_4 (i := 29) (r := (37, .iconst 3, 1)) rfl
theorem dL_law_294 : decode cL_law 294 = .ok (.iadd, 1) := sl_row agL_4 gL_4 (i := 30) (r := (38, .iadd, 1)) rfl
theorem dL_law_295 : decode cL_law 295 = .ok (.iaload, 1) := sl_row agL_4 gL_4 (i := 31) (r := (39, .iaload, 1)) rfl
theorem dL_law_296 : decode cL_law 296 = .ok (.invokevirtual 148, 3) := sl_row agL_4 gL_4 (i := 32) (r := (40, .invokevirtual 148, 3)) rfl
theorem dL_law_299 : decode cL_law 299 = .ok (.istore 7, 2) := sl_row agL_4 gL_4 (i := 33) (r := (43, .istore 7, 2)) rfl
theorem dL_law_301 : decode cL_law 301 = .ok (.aload_n 2, 1) := sl_row agL_4 gL_4 (i := 34) (r := (45, .aload_n 2, 1)) rfl
theorem dL_law_302 : decode cL_law 302 = .ok (.invokevirtual 149, 3) := sl_row agL_4 gL_4 (i := 35) (r := (46, .invokevirtual 149, 3)) rfl
theorem dL_law_305 : decode cL_law 305 = .ok (.iload 6, 2) := sl_row agL_4 gL_4 (i := 36) (r := (49, .iload 6, 2)) rfl
theorem dL_law_307 : decode cL_law 307 = .ok (.if_icmp .eq 5, 3) := sl_row agL_4 gL_4 (i := 37) (r := (51, .if_icmp .eq 5, 3)) rfl
theorem dL_law_310 : decode cL_law 310 = .ok (.iconst 0, 1) := sl_row agL_4 gL_4 (i := 38) (r := (54, .iconst 0, 1)) rfl
theorem dL_law_311 : decode cL_law 311 = .ok (.ireturn, 1) := sl_row agL_4 gL_4 (i := 39) (r := (55, .ireturn, 1)) rfl
theorem dL_law_312 : decode cL_law 312 = .ok (.iload 6, 2) := sl_row agL_4 gL_4 (i := 40) (r := (56, .iload 6, 2)) rfl
theorem dL_law_314 : decode cL_law 314 = .ok (.ifCond .ne 15, 3) := sl_row agL_4 gL_4 (i := 41) (r := (58, .ifCond .ne 15, 3)) rfl
theorem dL_law_317 : decode cL_law 317 = .ok (.aload_n 3, 1) := sl_row agL_4 gL_4 (i := 42) (r := (61, .aload_n 3, 1)) rfl
theorem dL_law_318 : decode cL_law 318 = .ok (.iconst 0, 1) := sl_row agL_4 gL_4 (i := 43) (r := (62, .iconst 0, 1)) rfl
theorem dL_law_319 : decode cL_law 319 = .ok (.laload, 1) := sl_row agL_4 gL_4 (i := 44) (r := (63, .laload, 1)) rfl
def ck_5 : ByteArray := .mk #[0x15, 0x07, 0x85, 0x94, 0x99, 0x00, 0x05, 0x03, 0xac, 0xa7, 0x0a, 0x44, 0x2b, 0x2a, 0x15, 0x05, 0x04, 0x60, 0x2e, 0x2d, 0xb8, 0x00, 0x98, 0x36, 0x06, 0x2c, 0x2a, 0x15, 0x05, 0x04, 0x60, 0x2e, 0xb6, 0x00, 0x9b, 0x36, 0x07, 0x2c, 0xb6, 0x00, 0x95, 0x15, 0x06, 0x9f, 0x00, 0x05, 0x03, 0xac, 0x15, 0x06, 0x9a, 0x00, 0x0f, 0x2d, 0x03, 0x2f, 0x15, 0x07, 0x85, 0x94, 0x99, 0x00, 0x05, 0x03, 0xac, 0xa7, 0x0a, 0x0c]
set_option maxRecDepth 20000 in
theorem agL_5 : ∀ q, agB cL_law ck_5 (320 + q) q := agB_of 320 (by decide +kernel)
def tL_5 : List (Nat × Instr × Nat) := [(0, .iload 7, 2), (2, .i2l, 1), (3, .lcmp, 1), (4, .ifCond .eq 5, 3), (7, .iconst 0, 1), (8, .ireturn, 1), (9, .goto 2628, 3), (12, .aload_n 1, 1), (13, .aload_n 0, 1), (14, .iload 5, 2), (16, .iconst 1, 1), (17, .iadd, 1), (18, .iaload, 1), (19, .aload_n 3, 1), (20, .invokestatic 152, 3), (23, .istore 6, 2), (25, .aload_n 2, 1), (26, .aload_n 0, 1), (27, .iload 5, 2), (29, .iconst 1, 1), (30, .iadd, 1), (31, .iaload, 1), (32, .invokevirtual 155, 3), (35, .istore 7, 2), (37, .aload_n 2, 1), (38, .invokevirtual 149, 3), (41, .iload 6, 2), (43, .if_icmp .eq 5, 3), (46, .iconst 0, 1), (47, .ireturn, 1), (48, .iload 6, 2), (50, .ifCond .ne 15, 3), (53, .aload_n 3, 1), (54, .iconst 0, 1), (55, .laload, 1), (56, .iload 7, 2), (58, .i2l, 1), (59, .lcmp, 1), (60, .ifCond .eq 5, 3), (63, .iconst 0, 1)]
theorem gL_5 : tL_5.all (fun r => opB ck_5 r.1 && decide (decode ck_5 r.1 = .ok (r.2.1, r.2.2))) = true := by decide +kernel
theorem dL_law_320 : decode cL_law 320 = .ok (.iload 7, 2) := sl_row agL_5 gL_5 (i := 0) (r := (0, .iload 7, 2)) rfl
theorem dL_law_322 : decode cL_law 322 = .ok (.i2l, 1) := sl_row agL_5 gL_5 (i := 1) (r := (2, .i2l, 1)) rfl
theorem dL_law_323 : decode cL_law 323 = .ok (.lcmp, 1) := sl_row agL_5 gL_5 (i := 2) (r := (3, .lcmp, 1)) rfl
theorem dL_law_324 : decode cL_law 324 = .ok (.ifCond .eq 5, 3) := sl_row agL_5 gL_5 (i := 3) (r := (4, .ifCond .eq 5, 3)) rfl
theorem dL_law_327 : decode cL_law 327 = .ok (.iconst 0, 1) := sl_row agL_5 gL_5 (i := 4) (r := (7, .iconst 0, 1)) rfl
theorem dL_law_328 : decode cL_law 328 = .ok (.ireturn, 1) := sl_row agL_5 gL_5 (i := 5) (r := (8, .ireturn, 1)) rfl
theorem dL_law_329 : decode cL_law 329 = .ok (.goto 2628, 3) := sl_row agL_5 gL_5 (i := 6) (r := (9, .goto 2628, 3)) rfl
theorem dL_law_332 : decode cL_law 332 = .ok (.aload_n 1, 1) := sl_row agL_5 gL_5 (i := 7) (r := (12, .aload_n 1, 1)) rfl
theorem dL_law_333 : decode cL_law 333 = .ok (.aload_n 0, 1) := sl_row agL_5 gL_5 (i := 8) (r := (13, .aload_n 0, 1)) rfl
theorem dL_law_334 : decode cL_law 334 = .ok (.iload 5, 2) := sl_row agL_5 gL_5 (i := 9) (r := (14, .iload 5, 2)) rfl
theorem dL_law_336 : decode cL_law 336 = .ok (.iconst 1, 1) := sl_row agL_5 gL_5 (i := 10) (r := (16, .iconst 1, 1)) rfl
theorem dL_law_337 : decode cL_law 337 = .ok (.iadd, 1) := sl_row agL_5 gL_5 (i := 11) (r := (17, .iadd, 1)) rfl
theorem dL_law_338 : decode cL_law 338 = .ok (.iaload, 1) := sl_row agL_5 gL_5 (i := 12) (r := (18, .iaload, 1)) rfl
theorem dL_law_339 : decode cL_law 339 = .ok (.aload_n 3, 1) := sl_row agL_5 gL_5 (i := 13) (r := (19, .aload_n 3, 1)) rfl
theorem dL_law_340 : decode cL_law 340 = .ok (.invokestatic 152, 3) := sl_row agL_5 gL_5 (i := 14) (r := (20, .invokestatic 152, 3)) rfl
theorem dL_law_343 : decode cL_law 343 = .ok (.istore 6, 2) := sl_row agL_5 gL_5 (i := 15) (r := (23, .istore 6, 2)) rfl
theorem dL_law_345 : decode cL_law 345 = .ok (.aload_n 2, 1) := sl_row agL_5 gL_5 (i := 16) (r := (25, .aload_n 2, 1)) rfl
theorem dL_law_346 : decode cL_law 346 = .ok (.aload_n 0, 1) := sl_row agL_5 gL_5 (i := 17) (r := (26, .aload_n 0, 1)) rfl
theorem dL_law_347 : decode cL_law 347 = .ok (.iload 5, 2) := sl_row agL_5 gL_5 (i := 18) (r := (27, .iload 5, 2)) rfl
theorem dL_law_349 : decode cL_law 349 = .ok (.iconst 1, 1) := sl_row agL_5 gL_5 (i := 19) (r := (29, .iconst 1, 1)) rfl
theorem dL_law_350 : decode cL_law 350 = .ok (.iadd, 1) := sl_row agL_5 gL_5 (i := 20) (r := (30, .iadd, 1)) rfl
theorem dL_law_351 : decode cL_law 351 = .ok (.iaload, 1) := sl_row agL_5 gL_5 (i := 21) (r := (31, .iaload, 1)) rfl
theorem dL_law_352 : decode cL_law 352 = .ok (.invokevirtual 155, 3) := sl_row agL_5 gL_5 (i := 22) (r := (32, .invokevirtual 155, 3)) rfl
theorem dL_law_355 : decode cL_law 355 = .ok (.istore 7, 2) := sl_row agL_5 gL_5 (i := 23) (r := (35, .istore 7, 2)) rfl
theorem dL_law_357 : decode cL_law 357 = .ok (.aload_n 2, 1) := sl_row agL_5 gL_5 (i := 24) (r := (37, .aload_n 2, 1)) rfl
theorem dL_law_358 : decode cL_law 358 = .ok (.invokevirtual 149, 3) := sl_row agL_5 gL_5 (i := 25) (r := (38, .invokevirtual 149, 3)) rfl
theorem dL_law_361 : decode cL_law 361 = .ok (.iload 6, 2) := sl_row agL_5 gL_5 (i := 26) (r := (41, .iload 6, 2)) rfl
theorem dL_law_363 : decode cL_law 363 = .ok (.if_icmp .eq 5, 3) := sl_row agL_5 gL_5 (i := 27) (r := (43, .if_icmp .eq 5, 3)) rfl
theorem dL_law_366 : decode cL_law 366 = .ok (.iconst 0, 1) := sl_row agL_5 gL_5 (i := 28) (r := (46, .iconst 0, 1)) rfl
theorem dL_law_367 : decode cL_law 367 = .ok (.ireturn, 1) := sl_row agL_5 gL_5 (i := 29) (r := (47, .ireturn, 1)) rfl
theorem dL_law_368 : decode cL_law 368 = .ok (.iload 6, 2) := sl_row agL_5 gL_5 (i := 30) (r := (48, .iload 6, 2)) rfl
theorem dL_law_370 : decode cL_law 370 = .ok (.ifCond .ne 15, 3) := sl_row agL_5 gL_5 (i := 31) (r := (50, .ifCond .ne 15, 3)) rfl
theorem dL_law_373 : decode cL_law 373 = .ok (.aload_n 3, 1) := sl_row agL_5 gL_5 (i := 32) (r := (53, .aload_n 3, 1)) rfl
theorem dL_law_374 : decode cL_law 374 = .ok (.iconst 0, 1) := sl_row agL_5 gL_5 (i := 33) (r := (54, .iconst 0, 1)) rfl
theorem dL_law_375 : decode cL_law 375 = .ok (.laload, 1) := sl_row agL_5 gL_5 (i := 34) (r := (55, .laload, 1)) rfl
theorem dL_law_376 : decode cL_law 376 = .ok (.iload 7, 2) := sl_row agL_5 gL_5 (i := 35) (r := (56, .iload 7, 2)) rfl
theorem dL_law_378 : decode cL_law 378 = .ok (.i2l, 1) := sl_row agL_5 gL_5 (i := 36) (r := (58, .i2l, 1)) rfl
theorem dL_law_379 : decode cL_law 379 = .ok (.lcmp, 1) := sl_row agL_5 gL_5 (i := 37) (r := (59, .lcmp, 1)) rfl
theorem dL_law_380 : decode cL_law 380 = .ok (.ifCond .eq 5, 3) := sl_row agL_5 gL_5 (i := 38) (r := (60, .ifCond .eq 5, 3)) rfl
theorem dL_law_383 : decode cL_law 383 = .ok (.iconst 0, 1) := sl_row agL_5 gL_5 (i := 39) (r := (63, .iconst 0, 1)) rfl
def ck_6 : ByteArray := .mk #[0xac, 0xa7, 0x0a, 0x0c, 0x2b, 0x2a, 0x15, 0x05, 0x04, 0x60, 0x2e, 0x2a, 0x15, 0x05, 0x05, 0x60, 0x2e, 0x2d, 0xb8, 0x00, 0x9c, 0x36, 0x06, 0x2c, 0x2a, 0x15, 0x05, 0x04, 0x60, 0x2e, 0x2a, 0x15, 0x05, 0x05, 0x60, 0x2e, 0xb6, 0x00, 0x9f, 0x36, 0x07, 0x2c, 0xb6, 0x00, 0x95, 0x15, 0x06, 0x9f, 0x00, 0x05, 0x03, 0xac, 0x15, 0x06, 0x9a, 0x00, 0x0f, 0x2d, 0x03, 0x2f, 0x15, 0x07, 0x85, 0x94, 0x99, 0x00, 0x05, 0x03]
set_option maxRecDepth 20000 in
theorem agL_6 : ∀ q, agB cL_law ck_6 (384 + q) q := agB_of 384 (by decide +kernel)
def tL_6 : List (Nat × Instr × Nat) := [(0, .ireturn, 1), (1, .goto 2572, 3), (4, .aload_n 1, 1), (5, .aload_n 0, 1), (6, .iload 5, 2), (8, .iconst 1, 1), (9, .iadd, 1), (10, .iaload, 1), (11, .aload_n 0, 1), (12, .iload 5, 2), (14, .iconst 2, 1), (15, .iadd, 1), (16, .iaload, 1), (17, .aload_n 3, 1), (18, .invokestatic 156, 3), (21, .istore 6, 2), (23, .aload_n 2, 1), (24, .aload_n 0, 1), (25, .iload 5, 2), (27, .iconst 1, 1), (28, .iadd, 1), (29, .iaload, 1), (30, .aload_n 0, 1), (31, .iload 5, 2), (33, .iconst 2, 1), (34, .iadd, 1), (35, .iaload, 1), (36, .invokevirtual 159, 3), (39, .istore 7, 2), (41, .aload_n 2, 1), (42, .invokevirtual 149, 3), (45, .iload 6, 2), (47, .if_icmp .eq 5, 3), (50, .iconst 0, 1), (51, .ireturn, 1), (52, .iload 6, 2), (54, .ifCond .ne 15, 3), (57, .aload_n 3, 1), (58, .iconst 0, 1), (59, .laload, 1), (60, .iload 7, 2), (62, .i2l, 1), (63, .lcmp, 1)]
theorem gL_6 : tL_6.all (fun r => opB ck_6 r.1 && decide (decode ck_6 r.1 = .ok (r.2.1, r.2.2))) = true := by decide +kernel
theorem dL_law_384 : decode cL_law 384 = .ok (.ireturn, 1) := sl_row agL_6 gL_6 (i := 0) (r := (0, .ireturn, 1)) rfl
theorem dL_law_385 : decode cL_law 385 = .ok (.goto 2572, 3) := sl_row agL_6 gL_6 (i := 1) (r := (1, .goto 2572, 3)) rfl
theorem dL_law_388 : decode cL_law 388 = .ok (.aload_n 1, 1) := sl_row agL_6 gL_6 (i := 2) (r := (4, .aload_n 1, 1)) rfl
theorem dL_law_389 : decode cL_law 389 = .ok (.aload_n 0, 1) := sl_row agL_6 gL_6 (i := 3) (r := (5, .aload_n 0, 1)) rfl
theorem dL_law_390 : decode cL_law 390 = .ok (.iload 5, 2) := sl_row agL_6 gL_6 (i := 4) (r := (6, .iload 5, 2)) rfl
theorem dL_law_392 : decode cL_law 392 = .ok (.iconst 1, 1) := sl_row agL_6 gL_6 (i := 5) (r := (8, .iconst 1, 1)) rfl
theorem dL_law_393 : decode cL_law 393 = .ok (.iadd, 1) := sl_row agL_6 gL_6 (i := 6) (r := (9, .iadd, 1)) rfl
theorem dL_law_394 : decode cL_law 394 = .ok (.iaload, 1) := sl_row agL_6 gL_6 (i := 7) (r := (10, .iaload, 1)) rfl
theorem dL_law_395 : decode cL_law 395 = .ok (.aload_n 0, 1) := sl_row agL_6 gL_6 (i := 8) (r := (11, .aload_n 0, 1)) rfl
theorem dL_law_396 : decode cL_law 396 = .ok (.iload 5, 2) := sl_row agL_6 gL_6 (i := 9) (r := (12, .iload 5, 2)) rfl
theorem dL_law_398 : decode cL_law 398 = .ok (.iconst 2, 1) := sl_row agL_6 gL_6 (i := 10) (r := (14, .iconst 2, 1)) rfl
theorem dL_law_399 : decode cL_law 399 = .ok (.iadd, 1) := sl_row agL_6 gL_6 (i := 11) (r := (15, .iadd, 1)) rfl
theorem dL_law_400 : decode cL_law 400 = .ok (.iaload, 1) := sl_row agL_6 gL_6 (i := 12) (r := (16, .iaload, 1)) rfl
theorem dL_law_401 : decode cL_law 401 = .ok (.aload_n 3, 1) := sl_row agL_6 gL_6 (i := 13) (r := (17, .aload_n 3, 1)) rfl
theorem dL_law_402 : decode cL_law 402 = .ok (.invokestatic 156, 3) := sl_row agL_6 gL_6 (i := 14) (r := (18, .invokestatic 156, 3)) rfl
theorem dL_law_405 : decode cL_law 405 = .ok (.istore 6, 2) := sl_row agL_6 gL_6 (i := 15) (r := (21, .istore 6, 2)) rfl
theorem dL_law_407 : decode cL_law 407 = .ok (.aload_n 2, 1) := sl_row agL_6 gL_6 (i := 16) (r := (23, .aload_n 2, 1)) rfl
theorem dL_law_408 : decode cL_law 408 = .ok (.aload_n 0, 1) := sl_row agL_6 gL_6 (i := 17) (r := (24, .aload_n 0, 1)) rfl
theorem dL_law_409 : decode cL_law 409 = .ok (.iload 5, 2) := sl_row agL_6 gL_6 (i := 18) (r := (25, .iload 5, 2)) rfl
theorem dL_law_411 : decode cL_law 411 = .ok (.iconst 1, 1) := sl_row agL_6 gL_6 (i := 19) (r := (27, .iconst 1, 1)) rfl
theorem dL_law_412 : decode cL_law 412 = .ok (.iadd, 1) := sl_row agL_6 gL_6 (i := 20) (r := (28, .iadd, 1)) rfl
theorem dL_law_413 : decode cL_law 413 = .ok (.iaload, 1) := sl_row agL_6 gL_6 (i := 21) (r := (29, .iaload, 1)) rfl
theorem dL_law_414 : decode cL_law 414 = .ok (.aload_n 0, 1) := sl_row agL_6 gL_6 (i := 22) (r := (30, .aload_n 0, 1)) rfl
theorem dL_law_415 : decode cL_law 415 = .ok (.iload 5, 2) := sl_row agL_6 gL_6 (i := 23) (r := (31, .iload 5, 2)) rfl
theorem dL_law_417 : decode cL_law 417 = .ok (.iconst 2, 1) := sl_row agL_6 gL_6 (i := 24) (r := (33, .iconst 2, 1)) rfl
theorem dL_law_418 : decode cL_law 418 = .ok (.iadd, 1) := sl_row agL_6 gL_6 (i := 25) (r := (34, .iadd, 1)) rfl
theorem dL_law_419 : decode cL_law 419 = .ok (.iaload, 1) := sl_row agL_6 gL_6 (i := 26) (r := (35, .iaload, 1)) rfl
theorem dL_law_420 : decode cL_law 420 = .ok (.invokevirtual 159, 3) := sl_row agL_6 gL_6 (i := 27) (r := (36, .invokevirtual 159, 3)) rfl
theorem dL_law_423 : decode cL_law 423 = .ok (.istore 7, 2) := sl_row agL_6 gL_6 (i := 28) (r := (39, .istore 7, 2)) rfl
theorem dL_law_425 : decode cL_law 425 = .ok (.aload_n 2, 1) := sl_row agL_6 gL_6 (i := 29) (r := (41, .aload_n 2, 1)) rfl
theorem dL_law_426 : decode cL_law 426 = .ok (.invokevirtual 149, 3) := sl_row agL_6 gL_6 (i := 30) (r := (42, .invokevirtual 149, 3)) rfl
theorem dL_law_429 : decode cL_law 429 = .ok (.iload 6, 2) := sl_row agL_6 gL_6 (i := 31) (r := (45, .iload 6, 2)) rfl
theorem dL_law_431 : decode cL_law 431 = .ok (.if_icmp .eq 5, 3) := sl_row agL_6 gL_6 (i := 32) (r := (47, .if_icmp .eq 5, 3)) rfl
theorem dL_law_434 : decode cL_law 434 = .ok (.iconst 0, 1) := sl_row agL_6 gL_6 (i := 33) (r := (50, .iconst 0, 1)) rfl
theorem dL_law_435 : decode cL_law 435 = .ok (.ireturn, 1) := sl_row agL_6 gL_6 (i := 34) (r := (51, .ireturn, 1)) rfl
theorem dL_law_436 : decode cL_law 436 = .ok (.iload 6, 2) := sl_row agL_6 gL_6 (i := 35) (r := (52, .iload 6, 2)) rfl
theorem dL_law_438 : decode cL_law 438 = .ok (.ifCond .ne 15, 3) := sl_row agL_6 gL_6 (i := 36) (r := (54, .ifCond .ne 15, 3)) rfl
theorem dL_law_441 : decode cL_law 441 = .ok (.aload_n 3, 1) := sl_row agL_6 gL_6 (i := 37) (r := (57, .aload_n 3, 1)) rfl
theorem dL_law_442 : decode cL_law 442 = .ok (.iconst 0, 1) := sl_row agL_6 gL_6 (i := 38) (r := (58, .iconst 0, 1)) rfl
theorem dL_law_443 : decode cL_law 443 = .ok (.laload, 1) := sl_row agL_6 gL_6 (i := 39) (r := (59, .laload, 1)) rfl
theorem dL_law_444 : decode cL_law 444 = .ok (.iload 7, 2) := sl_row agL_6 gL_6 (i := 40) (r := (60, .iload 7, 2)) rfl
theorem dL_law_446 : decode cL_law 446 = .ok (.i2l, 1) := sl_row agL_6 gL_6 (i := 41) (r := (62, .i2l, 1)) rfl
theorem dL_law_447 : decode cL_law 447 = .ok (.lcmp, 1) := sl_row agL_6 gL_6 (i := 42) (r := (63, .lcmp, 1)) rfl
def ck_7 : ByteArray := .mk #[0x99, 0x00, 0x05, 0x03, 0xac, 0xa7, 0x09, 0xc8, 0x2b, 0x2a, 0x15, 0x05, 0x04, 0x60, 0x2e, 0x2d, 0xb8, 0x00, 0xa0, 0x36, 0x06, 0x2c, 0x2a, 0x15, 0x05, 0x04, 0x60, 0x2e, 0xb6, 0x00, 0xa2, 0x36, 0x07, 0x2c, 0xb6, 0x00, 0x95, 0x15, 0x06, 0x9f, 0x00, 0x05, 0x03, 0xac, 0x15, 0x06, 0x9a, 0x00, 0x0f, 0x2d, 0x03, 0x2f, 0x15, 0x07, 0x85, 0x94, 0x99, 0x00, 0x05, 0x03, 0xac, 0xa7, 0x09, 0x90, 0x2b, 0x2a, 0x15, 0x05]
set_option maxRecDepth 20000 in
theorem agL_7 : ∀ q, agB cL_law ck_7 (448 + q) q := agB_of 448 (by decide +kernel)
def tL_7 : List (Nat × Instr × Nat) := [(0, .ifCond .eq 5, 3), (3, .iconst 0, 1), (4, .ireturn, 1), (5, .goto 2504, 3), (8, .aload_n 1, 1), (9, .aload_n 0, 1), (10, .iload 5, 2), (12, .iconst 1, 1), (13, .iadd, 1), (14, .iaload, 1), (15, .aload_n 3, 1), (16, .invokestatic 160, 3), (19, .istore 6, 2), (21, .aload_n 2, 1), (22, .aload_n 0, 1), (23, .iload 5, 2), (25, .iconst 1, 1), (26, .iadd, 1), (27, .iaload, 1), (28, .invokevirtual 162, 3), (31, .istore 7, 2), (33, .aload_n 2, 1), (34, .invokevirtual 149, 3), (37, .iload 6, 2), (39, .if_icmp .eq 5, 3), (42, .iconst 0, 1), (43, .ireturn, 1), (44, .iload 6, 2), (46, .ifCond .ne 15, 3), (49, .aload_n 3, 1), (50, .iconst 0, 1), (51, .laload, 1), (52, .iload 7, 2), (54, .i2l, 1), (55, .lcmp, 1), (56, .ifCond .eq 5, 3), (59, .iconst 0, 1), (60, .ireturn, 1), (61, .goto 2448, 3)]
theorem gL_7 : tL_7.all (fun r => opB ck_7 r.1 && decide (decode ck_7 r.1 = .ok (r.2.1, r.2.2))) = true := by decide +kernel
theorem dL_law_448 : decode cL_law 448 = .ok (.ifCond .eq 5, 3) := sl_row agL_7 gL_7 (i := 0) (r := (0, .ifCond .eq 5, 3)) rfl
theorem dL_law_451 : decode cL_law 451 = .ok (.iconst 0, 1) := sl_row agL_7 gL_7 (i := 1) (r := (3, .iconst 0, 1)) rfl
theorem dL_law_452 : decode cL_law 452 = .ok (.ireturn, 1) := sl_row agL_7 gL_7 (i := 2) (r := (4, .ireturn, 1)) rfl
theorem dL_law_453 : decode cL_law 453 = .ok (.goto 2504, 3) := sl_row agL_7 gL_7 (i := 3) (r := (5, .goto 2504, 3)) rfl
theorem dL_law_456 : decode cL_law 456 = .ok (.aload_n 1, 1) := sl_row agL_7 gL_7 (i := 4) (r := (8, .aload_n 1, 1)) rfl
theorem dL_law_457 : decode cL_law 457 = .ok (.aload_n 0, 1) := sl_row agL_7 gL_7 (i := 5) (r := (9, .aload_n 0, 1)) rfl
theorem dL_law_458 : decode cL_law 458 = .ok (.iload 5, 2) := sl_row agL_7 gL_7 (i := 6) (r := (10, .iload 5, 2)) rfl
theorem dL_law_460 : decode cL_law 460 = .ok (.iconst 1, 1) := sl_row agL_7 gL_7 (i := 7) (r := (12, .iconst 1, 1)) rfl
theorem dL_law_461 : decode cL_law 461 = .ok (.iadd, 1) := sl_row agL_7 gL_7 (i := 8) (r := (13, .iadd, 1)) rfl
theorem dL_law_462 : decode cL_law 462 = .ok (.iaload, 1) := sl_row agL_7 gL_7 (i := 9) (r := (14, .iaload, 1)) rfl
theorem dL_law_463 : decode cL_law 463 = .ok (.aload_n 3, 1) := sl_row agL_7 gL_7 (i := 10) (r := (15, .aload_n 3, 1)) rfl
theorem dL_law_464 : decode cL_law 464 = .ok (.invokestatic 160, 3) := sl_row agL_7 gL_7 (i := 11) (r := (16, .invokestatic 160, 3)) rfl
theorem dL_law_467 : decode cL_law 467 = .ok (.istore 6, 2) := sl_row agL_7 gL_7 (i := 12) (r := (19, .istore 6, 2)) rfl
theorem dL_law_469 : decode cL_law 469 = .ok (.aload_n 2, 1) := sl_row agL_7 gL_7 (i := 13) (r := (21, .aload_n 2, 1)) rfl
theorem dL_law_470 : decode cL_law 470 = .ok (.aload_n 0, 1) := sl_row agL_7 gL_7 (i := 14) (r := (22, .aload_n 0, 1)) rfl
theorem dL_law_471 : decode cL_law 471 = .ok (.iload 5, 2) := sl_row agL_7 gL_7 (i := 15) (r := (23, .iload 5, 2)) rfl
theorem dL_law_473 : decode cL_law 473 = .ok (.iconst 1, 1) := sl_row agL_7 gL_7 (i := 16) (r := (25, .iconst 1, 1)) rfl
theorem dL_law_474 : decode cL_law 474 = .ok (.iadd, 1) := sl_row agL_7 gL_7 (i := 17) (r := (26, .iadd, 1)) rfl
theorem dL_law_475 : decode cL_law 475 = .ok (.iaload, 1) := sl_row agL_7 gL_7 (i := 18) (r := (27, .iaload, 1)) rfl
theorem dL_law_476 : decode cL_law 476 = .ok (.invokevirtual 162, 3) := sl_row agL_7 gL_7 (i := 19) (r := (28, .invokevirtual 162, 3)) rfl
theorem dL_law_479 : decode cL_law 479 = .ok (.istore 7, 2) := sl_row agL_7 gL_7 (i := 20) (r := (31, .istore 7, 2)) rfl
theorem dL_law_481 : decode cL_law 481 = .ok (.aload_n 2, 1) := sl_row agL_7 gL_7 (i := 21) (r := (33, .aload_n 2, 1)) rfl
theorem dL_law_482 : decode cL_law 482 = .ok (.invokevirtual 149, 3) := sl_row agL_7 gL_7 (i := 22) (r := (34, .invokevirtual 149, 3)) rfl
theorem dL_law_485 : decode cL_law 485 = .ok (.iload 6, 2) := sl_row agL_7 gL_7 (i := 23) (r := (37, .iload 6, 2)) rfl
theorem dL_law_487 : decode cL_law 487 = .ok (.if_icmp .eq 5, 3) := sl_row agL_7 gL_7 (i := 24) (r := (39, .if_icmp .eq 5, 3)) rfl
theorem dL_law_490 : decode cL_law 490 = .ok (.iconst 0, 1) := sl_row agL_7 gL_7 (i := 25) (r := (42, .iconst 0, 1)) rfl
theorem dL_law_491 : decode cL_law 491 = .ok (.ireturn, 1) := sl_row agL_7 gL_7 (i := 26) (r := (43, .ireturn, 1)) rfl
theorem dL_law_492 : decode cL_law 492 = .ok (.iload 6, 2) := sl_row agL_7 gL_7 (i := 27) (r := (44, .iload 6, 2)) rfl
theorem dL_law_494 : decode cL_law 494 = .ok (.ifCond .ne 15, 3) := sl_row agL_7 gL_7 (i := 28) (r := (46, .ifCond .ne 15, 3)) rfl
theorem dL_law_497 : decode cL_law 497 = .ok (.aload_n 3, 1) := sl_row agL_7 gL_7 (i := 29) (r := (49, .aload_n 3, 1)) rfl
theorem dL_law_498 : decode cL_law 498 = .ok (.iconst 0, 1) := sl_row agL_7 gL_7 (i := 30) (r := (50, .iconst 0, 1)) rfl
theorem dL_law_499 : decode cL_law 499 = .ok (.laload, 1) := sl_row agL_7 gL_7 (i := 31) (r := (51, .laload, 1)) rfl
theorem dL_law_500 : decode cL_law 500 = .ok (.iload 7, 2) := sl_row agL_7 gL_7 (i := 32) (r := (52, .iload 7, 2)) rfl
theorem dL_law_502 : decode cL_law 502 = .ok (.i2l, 1) := sl_row agL_7 gL_7 (i := 33) (r := (54, .i2l, 1)) rfl
theorem dL_law_503 : decode cL_law 503 = .ok (.lcmp, 1) := sl_row agL_7 gL_7 (i := 34) (r := (55, .lcmp, 1)) rfl
theorem dL_law_504 : decode cL_law 504 = .ok (.ifCond .eq 5, 3) := sl_row agL_7 gL_7 (i := 35) (r := (56, .ifCond .eq 5, 3)) rfl
theorem dL_law_507 : decode cL_law 507 = .ok (.iconst 0, 1) := sl_row agL_7 gL_7 (i := 36) (r := (59, .iconst 0, 1)) rfl
theorem dL_law_508 : decode cL_law 508 = .ok (.ireturn, 1) := sl_row agL_7 gL_7 (i := 37) (r := (60, .ireturn, 1)) rfl
theorem dL_law_509 : decode cL_law 509 = .ok (.goto 2448, 3) := sl_row agL_7 gL_7 (i := 38) (r := (61, .goto 2448, 3)) rfl
def ck_8 : ByteArray := .mk #[0x2b, 0x2a, 0x15, 0x05, 0x04, 0x60, 0x2e, 0x2a, 0x15, 0x05, 0x05, 0x60, 0x2e, 0x2d, 0xb8, 0x00, 0xa3, 0x36, 0x06, 0x2c, 0x2a, 0x15, 0x05, 0x04, 0x60, 0x2e, 0x2a, 0x15, 0x05, 0x05, 0x60, 0x2e, 0xb6, 0x00, 0xa5, 0x36, 0x07, 0x2c, 0xb6, 0x00, 0x95, 0x15, 0x06, 0x9f, 0x00, 0x05, 0x03, 0xac, 0x15, 0x06, 0x9a, 0x00, 0x0f, 0x2d, 0x03, 0x2f, 0x15, 0x07, 0x85, 0x94, 0x99, 0x00, 0x05, 0x03, 0xac, 0xa7, 0x09, 0x4c]
set_option maxRecDepth 20000 in
theorem agL_8 : ∀ q, agB cL_law ck_8 (512 + q) q := agB_of 512 (by decide +kernel)
def tL_8 : List (Nat × Instr × Nat) := [(0, .aload_n 1, 1), (1, .aload_n 0, 1), (2, .iload 5, 2), (4, .iconst 1, 1), (5, .iadd, 1), (6, .iaload, 1), (7, .aload_n 0, 1), (8, .iload 5, 2), (10, .iconst 2, 1), (11, .iadd, 1), (12, .iaload, 1), (13, .aload_n 3, 1), (14, .invokestatic 163, 3), (17, .istore 6, 2), (19, .aload_n 2, 1), (20, .aload_n 0, 1), (21, .iload 5, 2), (23, .iconst 1, 1), (24, .iadd, 1), (25, .iaload, 1), (26, .aload_n 0, 1), (27, .iload 5, 2), (29, .iconst 2, 1), (30, .iadd, 1), (31, .iaload, 1), (32, .invokevirtual 165, 3), (35, .istore 7, 2), (37, .aload_n 2, 1), (38, .invokevirtual 149, 3), (41, .iload 6, 2), (43, .if_icmp .eq 5, 3), (46, .iconst 0, 1), (47, .ireturn, 1), (48, .iload 6, 2), (50, .ifCond .ne 15, 3), (53, .aload_n 3, 1), (54, .iconst 0, 1), (55, .laload, 1), (56, .iload 7, 2), (58, .i2l, 1), (59, .lcmp, 1), (60, .ifCond .eq 5, 3), (63, .iconst 0, 1)]
theorem gL_8 : tL_8.all (fun r => opB ck_8 r.1 && decide (decode ck_8 r.1 = .ok (r.2.1, r.2.2))) = true := by decide +kernel
theorem dL_law_512 : decode cL_law 512 = .ok (.aload_n 1, 1) := sl_row agL_8 gL_8 (i := 0) (r := (0, .aload_n 1, 1)) rfl
theorem dL_law_513 : decode cL_law 513 = .ok (.aload_n 0, 1) := sl_row agL_8 gL_8 (i := 1) (r := (1, .aload_n 0, 1)) rfl
theorem dL_law_514 : decode cL_law 514 = .ok (.iload 5, 2) := sl_row agL_8 gL_8 (i := 2) (r := (2, .iload 5, 2)) rfl
theorem dL_law_516 : decode cL_law 516 = .ok (.iconst 1, 1) := sl_row agL_8 gL_8 (i := 3) (r := (4, .iconst 1, 1)) rfl
theorem dL_law_517 : decode cL_law 517 = .ok (.iadd, 1) := sl_row agL_8 gL_8 (i := 4) (r := (5, .iadd, 1)) rfl
theorem dL_law_518 : decode cL_law 518 = .ok (.iaload, 1) := sl_row agL_8 gL_8 (i := 5) (r := (6, .iaload, 1)) rfl
theorem dL_law_519 : decode cL_law 519 = .ok (.aload_n 0, 1) := sl_row agL_8 gL_8 (i := 6) (r := (7, .aload_n 0, 1)) rfl
theorem dL_law_520 : decode cL_law 520 = .ok (.iload 5, 2) := sl_row agL_8 gL_8 (i := 7) (r := (8, .iload 5, 2)) rfl
theorem dL_law_522 : decode cL_law 522 = .ok (.iconst 2, 1) := sl_row agL_8 gL_8 (i := 8) (r := (10, .iconst 2, 1)) rfl
theorem dL_law_523 : decode cL_law 523 = .ok (.iadd, 1) := sl_row agL_8 gL_8 (i := 9) (r := (11, .iadd, 1)) rfl
theorem dL_law_524 : decode cL_law 524 = .ok (.iaload, 1) := sl_row agL_8 gL_8 (i := 10) (r := (12, .iaload, 1)) rfl
theorem dL_law_525 : decode cL_law 525 = .ok (.aload_n 3, 1) := sl_row agL_8 gL_8 (i := 11) (r := (13, .aload_n 3, 1)) rfl
theorem dL_law_526 : decode cL_law 526 = .ok (.invokestatic 163, 3) := sl_row agL_8 gL_8 (i := 12) (r := (14, .invokestatic 163, 3)) rfl
theorem dL_law_529 : decode cL_law 529 = .ok (.istore 6, 2) := sl_row agL_8 gL_8 (i := 13) (r := (17, .istore 6, 2)) rfl
theorem dL_law_531 : decode cL_law 531 = .ok (.aload_n 2, 1) := sl_row agL_8 gL_8 (i := 14) (r := (19, .aload_n 2, 1)) rfl
theorem dL_law_532 : decode cL_law 532 = .ok (.aload_n 0, 1) := sl_row agL_8 gL_8 (i := 15) (r := (20, .aload_n 0, 1)) rfl
theorem dL_law_533 : decode cL_law 533 = .ok (.iload 5, 2) := sl_row agL_8 gL_8 (i := 16) (r := (21, .iload 5, 2)) rfl
theorem dL_law_535 : decode cL_law 535 = .ok (.iconst 1, 1) := sl_row agL_8 gL_8 (i := 17) (r := (23, .iconst 1, 1)) rfl
theorem dL_law_536 : decode cL_law 536 = .ok (.iadd, 1) := sl_row agL_8 gL_8 (i := 18) (r := (24, .iadd, 1)) rfl
theorem dL_law_537 : decode cL_law 537 = .ok (.iaload, 1) := sl_row agL_8 gL_8 (i := 19) (r := (25, .iaload, 1)) rfl
theorem dL_law_538 : decode cL_law 538 = .ok (.aload_n 0, 1) := sl_row agL_8 gL_8 (i := 20) (r := (26, .aload_n 0, 1)) rfl
theorem dL_law_539 : decode cL_law 539 = .ok (.iload 5, 2) := sl_row agL_8 gL_8 (i := 21) (r := (27, .iload 5, 2)) rfl
theorem dL_law_541 : decode cL_law 541 = .ok (.iconst 2, 1) := sl_row agL_8 gL_8 (i := 22) (r := (29, .iconst 2, 1)) rfl
theorem dL_law_542 : decode cL_law 542 = .ok (.iadd, 1) := sl_row agL_8 gL_8 (i := 23) (r := (30, .iadd, 1)) rfl
theorem dL_law_543 : decode cL_law 543 = .ok (.iaload, 1) := sl_row agL_8 gL_8 (i := 24) (r := (31, .iaload, 1)) rfl
theorem dL_law_544 : decode cL_law 544 = .ok (.invokevirtual 165, 3) := sl_row agL_8 gL_8 (i := 25) (r := (32, .invokevirtual 165, 3)) rfl
theorem dL_law_547 : decode cL_law 547 = .ok (.istore 7, 2) := sl_row agL_8 gL_8 (i := 26) (r := (35, .istore 7, 2)) rfl
theorem dL_law_549 : decode cL_law 549 = .ok (.aload_n 2, 1) := sl_row agL_8 gL_8 (i := 27) (r := (37, .aload_n 2, 1)) rfl
theorem dL_law_550 : decode cL_law 550 = .ok (.invokevirtual 149, 3) := sl_row agL_8 gL_8 (i := 28) (r := (38, .invokevirtual 149, 3)) rfl
theorem dL_law_553 : decode cL_law 553 = .ok (.iload 6, 2) := sl_row agL_8 gL_8 (i := 29) (r := (41, .iload 6, 2)) rfl
theorem dL_law_555 : decode cL_law 555 = .ok (.if_icmp .eq 5, 3) := sl_row agL_8 gL_8 (i := 30) (r := (43, .if_icmp .eq 5, 3)) rfl
theorem dL_law_558 : decode cL_law 558 = .ok (.iconst 0, 1) := sl_row agL_8 gL_8 (i := 31) (r := (46, .iconst 0, 1)) rfl
theorem dL_law_559 : decode cL_law 559 = .ok (.ireturn, 1) := sl_row agL_8 gL_8 (i := 32) (r := (47, .ireturn, 1)) rfl
theorem dL_law_560 : decode cL_law 560 = .ok (.iload 6, 2) := sl_row agL_8 gL_8 (i := 33) (r := (48, .iload 6, 2)) rfl
theorem dL_law_562 : decode cL_law 562 = .ok (.ifCond .ne 15, 3) := sl_row agL_8 gL_8 (i := 34) (r := (50, .ifCond .ne 15, 3)) rfl
theorem dL_law_565 : decode cL_law 565 = .ok (.aload_n 3, 1) := sl_row agL_8 gL_8 (i := 35) (r := (53, .aload_n 3, 1)) rfl
theorem dL_law_566 : decode cL_law 566 = .ok (.iconst 0, 1) := sl_row agL_8 gL_8 (i := 36) (r := (54, .iconst 0, 1)) rfl
theorem dL_law_567 : decode cL_law 567 = .ok (.laload, 1) := sl_row agL_8 gL_8 (i := 37) (r := (55, .laload, 1)) rfl
theorem dL_law_568 : decode cL_law 568 = .ok (.iload 7, 2) := sl_row agL_8 gL_8 (i := 38) (r := (56, .iload 7, 2)) rfl
theorem dL_law_570 : decode cL_law 570 = .ok (.i2l, 1) := sl_row agL_8 gL_8 (i := 39) (r := (58, .i2l, 1)) rfl
theorem dL_law_571 : decode cL_law 571 = .ok (.lcmp, 1) := sl_row agL_8 gL_8 (i := 40) (r := (59, .lcmp, 1)) rfl
theorem dL_law_572 : decode cL_law 572 = .ok (.ifCond .eq 5, 3) := sl_row agL_8 gL_8 (i := 41) (r := (60, .ifCond .eq 5, 3)) rfl
theorem dL_law_575 : decode cL_law 575 = .ok (.iconst 0, 1) := sl_row agL_8 gL_8 (i := 42) (r := (63, .iconst 0, 1)) rfl
def ck_9 : ByteArray := .mk #[0xac, 0xa7, 0x09, 0x4c, 0x2b, 0x2a, 0x15, 0x05, 0x04, 0x60, 0x2e, 0x2d, 0xb8, 0x00, 0xa6, 0x36, 0x06, 0x2c, 0x2a, 0x15, 0x05, 0x04, 0x60, 0x2e, 0xb6, 0x00, 0xa8, 0x36, 0x07, 0x2c, 0xb6, 0x00, 0x95, 0x15, 0x06, 0x9f, 0x00, 0x05, 0x03, 0xac, 0x15, 0x06, 0x9a, 0x00, 0x0f, 0x2d, 0x03, 0x2f, 0x15, 0x07, 0x85, 0x94, 0x99, 0x00, 0x05, 0x03, 0xac, 0xa7, 0x09, 0x14, 0x2b, 0x2a, 0x15, 0x05, 0x04, 0x60, 0x2e, 0x2a]
set_option maxRecDepth 20000 in
theorem agL_9 : ∀ q, agB cL_law ck_9 (576 + q) q := agB_of 576 (by decide +kernel)
def tL_9 : List (Nat × Instr × Nat) := [(0, .ireturn, 1), (1, .goto 2380, 3), (4, .aload_n 1, 1), (5, .aload_n 0, 1), (6, .iload 5, 2), (8, .iconst 1, 1), (9, .iadd, 1), (10, .iaload, 1), (11, .aload_n 3, 1), (12, .invokestatic 166, 3), (15, .istore 6, 2), (17, .aload_n 2, 1), (18, .aload_n 0, 1), (19, .iload 5, 2), (21, .iconst 1, 1), (22, .iadd, 1), (23, .iaload, 1), (24, .invokevirtual 168, 3), (27, .istore 7, 2), (29, .aload_n 2, 1), (30, .invokevirtual 149, 3), (33, .iload 6, 2), (35, .if_icmp .eq 5, 3), (38, .iconst 0, 1), (39, .ireturn, 1), (40, .iload 6, 2), (42, .ifCond .ne 15, 3), (45, .aload_n 3, 1), (46, .iconst 0, 1), (47, .laload, 1), (48, .iload 7, 2), (50, .i2l, 1), (51, .lcmp, 1), (52, .ifCond .eq 5, 3), (55, .iconst 0, 1), (56, .ireturn, 1), (57, .goto 2324, 3), (60, .aload_n 1, 1), (61, .aload_n 0, 1), (62, .iload 5, 2)]
theorem gL_9 : tL_9.all (fun r => opB ck_9 r.1 && decide (decode ck_9 r.1 = .ok (r.2.1, r.2.2))) = true := by decide +kernel
theorem dL_law_576 : decode cL_law 576 = .ok (.ireturn, 1) := sl_row agL_9 gL_9 (i := 0) (r := (0, .ireturn, 1)) rfl
theorem dL_law_577 : decode cL_law 577 = .ok (.goto 2380, 3) := sl_row agL_9 gL_9 (i := 1) (r := (1, .goto 2380, 3)) rfl
theorem dL_law_580 : decode cL_law 580 = .ok (.aload_n 1, 1) := sl_row agL_9 gL_9 (i := 2) (r := (4, .aload_n 1, 1)) rfl
theorem dL_law_581 : decode cL_law 581 = .ok (.aload_n 0, 1) := sl_row agL_9 gL_9 (i := 3) (r := (5, .aload_n 0, 1)) rfl
theorem dL_law_582 : decode cL_law 582 = .ok (.iload 5, 2) := sl_row agL_9 gL_9 (i := 4) (r := (6, .iload 5, 2)) rfl
theorem dL_law_584 : decode cL_law 584 = .ok (.iconst 1, 1) := sl_row agL_9 gL_9 (i := 5) (r := (8, .iconst 1, 1)) rfl
theorem dL_law_585 : decode cL_law 585 = .ok (.iadd, 1) := sl_row agL_9 gL_9 (i := 6) (r := (9, .iadd, 1)) rfl
theorem dL_law_586 : decode cL_law 586 = .ok (.iaload, 1) := sl_row agL_9 gL_9 (i := 7) (r := (10, .iaload, 1)) rfl
theorem dL_law_587 : decode cL_law 587 = .ok (.aload_n 3, 1) := sl_row agL_9 gL_9 (i := 8) (r := (11, .aload_n 3, 1)) rfl
theorem dL_law_588 : decode cL_law 588 = .ok (.invokestatic 166, 3) := sl_row agL_9 gL_9 (i := 9) (r := (12, .invokestatic 166, 3)) rfl
theorem dL_law_591 : decode cL_law 591 = .ok (.istore 6, 2) := sl_row agL_9 gL_9 (i := 10) (r := (15, .istore 6, 2)) rfl
theorem dL_law_593 : decode cL_law 593 = .ok (.aload_n 2, 1) := sl_row agL_9 gL_9 (i := 11) (r := (17, .aload_n 2, 1)) rfl
theorem dL_law_594 : decode cL_law 594 = .ok (.aload_n 0, 1) := sl_row agL_9 gL_9 (i := 12) (r := (18, .aload_n 0, 1)) rfl
theorem dL_law_595 : decode cL_law 595 = .ok (.iload 5, 2) := sl_row agL_9 gL_9 (i := 13) (r := (19, .iload 5, 2)) rfl
theorem dL_law_597 : decode cL_law 597 = .ok (.iconst 1, 1) := sl_row agL_9 gL_9 (i := 14) (r := (21, .iconst 1, 1)) rfl
theorem dL_law_598 : decode cL_law 598 = .ok (.iadd, 1) := sl_row agL_9 gL_9 (i := 15) (r := (22, .iadd, 1)) rfl
theorem dL_law_599 : decode cL_law 599 = .ok (.iaload, 1) := sl_row agL_9 gL_9 (i := 16) (r := (23, .iaload, 1)) rfl
theorem dL_law_600 : decode cL_law 600 = .ok (.invokevirtual 168, 3) := sl_row agL_9 gL_9 (i := 17) (r := (24, .invokevirtual 168, 3)) rfl
theorem dL_law_603 : decode cL_law 603 = .ok (.istore 7, 2) := sl_row agL_9 gL_9 (i := 18) (r := (27, .istore 7, 2)) rfl
theorem dL_law_605 : decode cL_law 605 = .ok (.aload_n 2, 1) := sl_row agL_9 gL_9 (i := 19) (r := (29, .aload_n 2, 1)) rfl
theorem dL_law_606 : decode cL_law 606 = .ok (.invokevirtual 149, 3) := sl_row agL_9 gL_9 (i := 20) (r := (30, .invokevirtual 149, 3)) rfl
theorem dL_law_609 : decode cL_law 609 = .ok (.iload 6, 2) := sl_row agL_9 gL_9 (i := 21) (r := (33, .iload 6, 2)) rfl
theorem dL_law_611 : decode cL_law 611 = .ok (.if_icmp .eq 5, 3) := sl_row agL_9 gL_9 (i := 22) (r := (35, .if_icmp .eq 5, 3)) rfl
theorem dL_law_614 : decode cL_law 614 = .ok (.iconst 0, 1) := sl_row agL_9 gL_9 (i := 23) (r := (38, .iconst 0, 1)) rfl
theorem dL_law_615 : decode cL_law 615 = .ok (.ireturn, 1) := sl_row agL_9 gL_9 (i := 24) (r := (39, .ireturn, 1)) rfl
theorem dL_law_616 : decode cL_law 616 = .ok (.iload 6, 2) := sl_row agL_9 gL_9 (i := 25) (r := (40, .iload 6, 2)) rfl
theorem dL_law_618 : decode cL_law 618 = .ok (.ifCond .ne 15, 3) := sl_row agL_9 gL_9 (i := 26) (r := (42, .ifCond .ne 15, 3)) rfl
theorem dL_law_621 : decode cL_law 621 = .ok (.aload_n 3, 1) := sl_row agL_9 gL_9 (i := 27) (r := (45, .aload_n 3, 1)) rfl
theorem dL_law_622 : decode cL_law 622 = .ok (.iconst 0, 1) := sl_row agL_9 gL_9 (i := 28) (r := (46, .iconst 0, 1)) rfl
theorem dL_law_623 : decode cL_law 623 = .ok (.laload, 1) := sl_row agL_9 gL_9 (i := 29) (r := (47, .laload, 1)) rfl
theorem dL_law_624 : decode cL_law 624 = .ok (.iload 7, 2) := sl_row agL_9 gL_9 (i := 30) (r := (48, .iload 7, 2)) rfl
theorem dL_law_626 : decode cL_law 626 = .ok (.i2l, 1) := sl_row agL_9 gL_9 (i := 31) (r := (50, .i2l, 1)) rfl
theorem dL_law_627 : decode cL_law 627 = .ok (.lcmp, 1) := sl_row agL_9 gL_9 (i := 32) (r := (51, .lcmp, 1)) rfl
theorem dL_law_628 : decode cL_law 628 = .ok (.ifCond .eq 5, 3) := sl_row agL_9 gL_9 (i := 33) (r := (52, .ifCond .eq 5, 3)) rfl
theorem dL_law_631 : decode cL_law 631 = .ok (.iconst 0, 1) := sl_row agL_9 gL_9 (i := 34) (r := (55, .iconst 0, 1)) rfl
theorem dL_law_632 : decode cL_law 632 = .ok (.ireturn, 1) := sl_row agL_9 gL_9 (i := 35) (r := (56, .ireturn, 1)) rfl
theorem dL_law_633 : decode cL_law 633 = .ok (.goto 2324, 3) := sl_row agL_9 gL_9 (i := 36) (r := (57, .goto 2324, 3)) rfl
theorem dL_law_636 : decode cL_law 636 = .ok (.aload_n 1, 1) := sl_row agL_9 gL_9 (i := 37) (r := (60, .aload_n 1, 1)) rfl
theorem dL_law_637 : decode cL_law 637 = .ok (.aload_n 0, 1) := sl_row agL_9 gL_9 (i := 38) (r := (61, .aload_n 0, 1)) rfl
theorem dL_law_638 : decode cL_law 638 = .ok (.iload 5, 2) := sl_row agL_9 gL_9 (i := 39) (r := (62, .iload 5, 2)) rfl
def ck_10 : ByteArray := .mk #[0x04, 0x60, 0x2e, 0x2a, 0x15, 0x05, 0x05, 0x60, 0x2e, 0x2a, 0x15, 0x05, 0x06, 0x60, 0x2e, 0x2d, 0xb8, 0x00, 0xa9, 0x36, 0x06, 0x2c, 0x2a, 0x15, 0x05, 0x04, 0x60, 0x2e, 0x2a, 0x15, 0x05, 0x05, 0x60, 0x2e, 0x2a, 0x15, 0x05, 0x06, 0x60, 0x2e, 0xb6, 0x00, 0xab, 0x36, 0x07, 0x2c, 0xb6, 0x00, 0x95, 0x15, 0x06, 0x9f, 0x00, 0x05, 0x03, 0xac, 0x15, 0x06, 0x9a, 0x00, 0x0f, 0x2d, 0x03, 0x2f, 0x15, 0x07, 0x85, 0x94]
set_option maxRecDepth 20000 in
theorem agL_10 : ∀ q, agB cL_law ck_10 (640 + q) q := agB_of 640 (by decide +kernel)
def tL_10 : List (Nat × Instr × Nat) := [(0, .iconst 1, 1), (1, .iadd, 1), (2, .iaload, 1), (3, .aload_n 0, 1), (4, .iload 5, 2), (6, .iconst 2, 1), (7, .iadd, 1), (8, .iaload, 1), (9, .aload_n 0, 1), (10, .iload 5, 2), (12, .iconst 3, 1), (13, .iadd, 1), (14, .iaload, 1), (15, .aload_n 3, 1), (16, .invokestatic 169, 3), (19, .istore 6, 2), (21, .aload_n 2, 1), (22, .aload_n 0, 1), (23, .iload 5, 2), (25, .iconst 1, 1), (26, .iadd, 1), (27, .iaload, 1), (28, .aload_n 0, 1), (29, .iload 5, 2), (31, .iconst 2, 1), (32, .iadd, 1), (33, .iaload, 1), (34, .aload_n 0, 1), (35, .iload 5, 2), (37, .iconst 3, 1), (38, .iadd, 1), (39, .iaload, 1), (40, .invokevirtual 171, 3), (43, .istore 7, 2), (45, .aload_n 2, 1), (46, .invokevirtual 149, 3), (49, .iload 6, 2), (51, .if_icmp .eq 5, 3), (54, .iconst 0, 1), (55, .ireturn, 1), (56, .iload 6, 2), (58, .ifCond .ne 15, 3), (61, .aload_n 3, 1), (62, .iconst 0, 1), (63, .laload, 1)]
theorem gL_10 : tL_10.all (fun r => opB ck_10 r.1 && decide (decode ck_10 r.1 = .ok (r.2.1, r.2.2))) = true := by decide +kernel
theorem dL_law_640 : decode cL_law 640 = .ok (.iconst 1, 1) := sl_row agL_10 gL_10 (i := 0) (r := (0, .iconst 1, 1)) rfl
theorem dL_law_641 : decode cL_law 641 = .ok (.iadd, 1) := sl_row agL_10 gL_10 (i := 1) (r := (1, .iadd, 1)) rfl
theorem dL_law_642 : decode cL_law 642 = .ok (.iaload, 1) := sl_row agL_10 gL_10 (i := 2) (r := (2, .iaload, 1)) rfl
theorem dL_law_643 : decode cL_law 643 = .ok (.aload_n 0, 1) := sl_row agL_10 gL_10 (i := 3) (r := (3, .aload_n 0, 1)) rfl
theorem dL_law_644 : decode cL_law 644 = .ok (.iload 5, 2) := sl_row agL_10 gL_10 (i := 4) (r := (4, .iload 5, 2)) rfl
theorem dL_law_646 : decode cL_law 646 = .ok (.iconst 2, 1) := sl_row agL_10 gL_10 (i := 5) (r := (6, .iconst 2, 1)) rfl
theorem dL_law_647 : decode cL_law 647 = .ok (.iadd, 1) := sl_row agL_10 gL_10 (i := 6) (r := (7, .iadd, 1)) rfl
theorem dL_law_648 : decode cL_law 648 = .ok (.iaload, 1) := sl_row agL_10 gL_10 (i := 7) (r := (8, .iaload, 1)) rfl
theorem dL_law_649 : decode cL_law 649 = .ok (.aload_n 0, 1) := sl_row agL_10 gL_10 (i := 8) (r := (9, .aload_n 0, 1)) rfl
theorem dL_law_650 : decode cL_law 650 = .ok (.iload 5, 2) := sl_row agL_10 gL_10 (i := 9) (r := (10, .iload 5, 2)) rfl
theorem dL_law_652 : decode cL_law 652 = .ok (.iconst 3, 1) := sl_row agL_10 gL_10 (i := 10) (r := (12, .iconst 3, 1)) rfl
theorem dL_law_653 : decode cL_law 653 = .ok (.iadd, 1) := sl_row agL_10 gL_10 (i := 11) (r := (13, .iadd, 1)) rfl
theorem dL_law_654 : decode cL_law 654 = .ok (.iaload, 1) := sl_row agL_10 gL_10 (i := 12) (r := (14, .iaload, 1)) rfl
theorem dL_law_655 : decode cL_law 655 = .ok (.aload_n 3, 1) := sl_row agL_10 gL_10 (i := 13) (r := (15, .aload_n 3, 1)) rfl
theorem dL_law_656 : decode cL_law 656 = .ok (.invokestatic 169, 3) := sl_row agL_10 gL_10 (i := 14) (r := (16, .invokestatic 169, 3)) rfl
theorem dL_law_659 : decode cL_law 659 = .ok (.istore 6, 2) := sl_row agL_10 gL_10 (i := 15) (r := (19, .istore 6, 2)) rfl
theorem dL_law_661 : decode cL_law 661 = .ok (.aload_n 2, 1) := sl_row agL_10 gL_10 (i := 16) (r := (21, .aload_n 2, 1)) rfl
theorem dL_law_662 : decode cL_law 662 = .ok (.aload_n 0, 1) := sl_row agL_10 gL_10 (i := 17) (r := (22, .aload_n 0, 1)) rfl
theorem dL_law_663 : decode cL_law 663 = .ok (.iload 5, 2) := sl_row agL_10 gL_10 (i := 18) (r := (23, .iload 5, 2)) rfl
theorem dL_law_665 : decode cL_law 665 = .ok (.iconst 1, 1) := sl_row agL_10 gL_10 (i := 19) (r := (25, .iconst 1, 1)) rfl
theorem dL_law_666 : decode cL_law 666 = .ok (.iadd, 1) := sl_row agL_10 gL_10 (i := 20) (r := (26, .iadd, 1)) rfl
theorem dL_law_667 : decode cL_law 667 = .ok (.iaload, 1) := sl_row agL_10 gL_10 (i := 21) (r := (27, .iaload, 1)) rfl
theorem dL_law_668 : decode cL_law 668 = .ok (.aload_n 0, 1) := sl_row agL_10 gL_10 (i := 22) (r := (28, .aload_n 0, 1)) rfl
theorem dL_law_669 : decode cL_law 669 = .ok (.iload 5, 2) := sl_row agL_10 gL_10 (i := 23) (r := (29, .iload 5, 2)) rfl
theorem dL_law_671 : decode cL_law 671 = .ok (.iconst 2, 1) := sl_row agL_10 gL_10 (i := 24) (r := (31, .iconst 2, 1)) rfl
theorem dL_law_672 : decode cL_law 672 = .ok (.iadd, 1) := sl_row agL_10 gL_10 (i := 25) (r := (32, .iadd, 1)) rfl
theorem dL_law_673 : decode cL_law 673 = .ok (.iaload, 1) := sl_row agL_10 gL_10 (i := 26) (r := (33, .iaload, 1)) rfl
theorem dL_law_674 : decode cL_law 674 = .ok (.aload_n 0, 1) := sl_row agL_10 gL_10 (i := 27) (r := (34, .aload_n 0, 1)) rfl
theorem dL_law_675 : decode cL_law 675 = .ok (.iload 5, 2) := sl_row agL_10 gL_10 (i := 28) (r := (35, .iload 5, 2)) rfl
theorem dL_law_677 : decode cL_law 677 = .ok (.iconst 3, 1) := sl_row agL_10 gL_10 (i := 29) (r := (37, .iconst 3, 1)) rfl
theorem dL_law_678 : decode cL_law 678 = .ok (.iadd, 1) := sl_row agL_10 gL_10 (i := 30) (r := (38, .iadd, 1)) rfl
theorem dL_law_679 : decode cL_law 679 = .ok (.iaload, 1) := sl_row agL_10 gL_10 (i := 31) (r := (39, .iaload, 1)) rfl
theorem dL_law_680 : decode cL_law 680 = .ok (.invokevirtual 171, 3) := sl_row agL_10 gL_10 (i := 32) (r := (40, .invokevirtual 171, 3)) rfl
theorem dL_law_683 : decode cL_law 683 = .ok (.istore 7, 2) := sl_row agL_10 gL_10 (i := 33) (r := (43, .istore 7, 2)) rfl
theorem dL_law_685 : decode cL_law 685 = .ok (.aload_n 2, 1) := sl_row agL_10 gL_10 (i := 34) (r := (45, .aload_n 2, 1)) rfl
theorem dL_law_686 : decode cL_law 686 = .ok (.invokevirtual 149, 3) := sl_row agL_10 gL_10 (i := 35) (r := (46, .invokevirtual 149, 3)) rfl
theorem dL_law_689 : decode cL_law 689 = .ok (.iload 6, 2) := sl_row agL_10 gL_10 (i := 36) (r := (49, .iload 6, 2)) rfl
theorem dL_law_691 : decode cL_law 691 = .ok (.if_icmp .eq 5, 3) := sl_row agL_10 gL_10 (i := 37) (r := (51, .if_icmp .eq 5, 3)) rfl
theorem dL_law_694 : decode cL_law 694 = .ok (.iconst 0, 1) := sl_row agL_10 gL_10 (i := 38) (r := (54, .iconst 0, 1)) rfl
theorem dL_law_695 : decode cL_law 695 = .ok (.ireturn, 1) := sl_row agL_10 gL_10 (i := 39) (r := (55, .ireturn, 1)) rfl
theorem dL_law_696 : decode cL_law 696 = .ok (.iload 6, 2) := sl_row agL_10 gL_10 (i := 40) (r := (56, .iload 6, 2)) rfl
theorem dL_law_698 : decode cL_law 698 = .ok (.ifCond .ne 15, 3) := sl_row agL_10 gL_10 (i := 41) (r := (58, .ifCond .ne 15, 3)) rfl
theorem dL_law_701 : decode cL_law 701 = .ok (.aload_n 3, 1) := sl_row agL_10 gL_10 (i := 42) (r := (61, .aload_n 3, 1)) rfl
theorem dL_law_702 : decode cL_law 702 = .ok (.iconst 0, 1) := sl_row agL_10 gL_10 (i := 43) (r := (62, .iconst 0, 1)) rfl
theorem dL_law_703 : decode cL_law 703 = .ok (.laload, 1) := sl_row agL_10 gL_10 (i := 44) (r := (63, .laload, 1)) rfl
def ck_11 : ByteArray := .mk #[0x15, 0x07, 0x85, 0x94, 0x99, 0x00, 0x05, 0x03, 0xac, 0xa7, 0x08, 0xc4, 0x2b, 0x2a, 0x15, 0x05, 0x04, 0x60, 0x2e, 0x2d, 0xb8, 0x00, 0xac, 0x36, 0x06, 0x2c, 0x2a, 0x15, 0x05, 0x04, 0x60, 0x2e, 0xb6, 0x00, 0xae, 0x36, 0x07, 0x2c, 0xb6, 0x00, 0x95, 0x15, 0x06, 0x9f, 0x00, 0x05, 0x03, 0xac, 0x15, 0x06, 0x9a, 0x00, 0x0f, 0x2d, 0x03, 0x2f, 0x15, 0x07, 0x85, 0x94, 0x99, 0x00, 0x05, 0x03, 0xac, 0xa7, 0x08, 0x8c]
set_option maxRecDepth 20000 in
theorem agL_11 : ∀ q, agB cL_law ck_11 (704 + q) q := agB_of 704 (by decide +kernel)
def tL_11 : List (Nat × Instr × Nat) := [(0, .iload 7, 2), (2, .i2l, 1), (3, .lcmp, 1), (4, .ifCond .eq 5, 3), (7, .iconst 0, 1), (8, .ireturn, 1), (9, .goto 2244, 3), (12, .aload_n 1, 1), (13, .aload_n 0, 1), (14, .iload 5, 2), (16, .iconst 1, 1), (17, .iadd, 1), (18, .iaload, 1), (19, .aload_n 3, 1), (20, .invokestatic 172, 3), (23, .istore 6, 2), (25, .aload_n 2, 1), (26, .aload_n 0, 1), (27, .iload 5, 2), (29, .iconst 1, 1), (30, .iadd, 1), (31, .iaload, 1), (32, .invokevirtual 174, 3), (35, .istore 7, 2), (37, .aload_n 2, 1), (38, .invokevirtual 149, 3), (41, .iload 6, 2), (43, .if_icmp .eq 5, 3), (46, .iconst 0, 1), (47, .ireturn, 1), (48, .iload 6, 2), (50, .ifCond .ne 15, 3), (53, .aload_n 3, 1), (54, .iconst 0, 1), (55, .laload, 1), (56, .iload 7, 2), (58, .i2l, 1), (59, .lcmp, 1), (60, .ifCond .eq 5, 3), (63, .iconst 0, 1)]
theorem gL_11 : tL_11.all (fun r => opB ck_11 r.1 && decide (decode ck_11 r.1 = .ok (r.2.1, r.2.2))) = true := by decide +kernel
theorem dL_law_704 : decode cL_law 704 = .ok (.iload 7, 2) := sl_row agL_11 gL_11 (i := 0) (r := (0, .iload 7, 2)) rfl
theorem dL_law_706 : decode cL_law 706 = .ok (.i2l, 1) := sl_row agL_11 gL_11 (i := 1) (r := (2, .i2l, 1)) rfl
theorem dL_law_707 : decode cL_law 707 = .ok (.lcmp, 1) := sl_row agL_11 gL_11 (i := 2) (r := (3, .lcmp, 1)) rfl
theorem dL_law_708 : decode cL_law 708 = .ok (.ifCond .eq 5, 3) := sl_row agL_11 gL_11 (i := 3) (r := (4, .ifCond .eq 5, 3)) rfl
theorem dL_law_711 : decode cL_law 711 = .ok (.iconst 0, 1) := sl_row agL_11 gL_11 (i := 4) (r := (7, .iconst 0, 1)) rfl
theorem dL_law_712 : decode cL_law 712 = .ok (.ireturn, 1) := sl_row agL_11 gL_11 (i := 5) (r := (8, .ireturn, 1)) rfl
theorem dL_law_713 : decode cL_law 713 = .ok (.goto 2244, 3) := sl_row agL_11 gL_11 (i := 6) (r := (9, .goto 2244, 3)) rfl
theorem dL_law_716 : decode cL_law 716 = .ok (.aload_n 1, 1) := sl_row agL_11 gL_11 (i := 7) (r := (12, .aload_n 1, 1)) rfl
theorem dL_law_717 : decode cL_law 717 = .ok (.aload_n 0, 1) := sl_row agL_11 gL_11 (i := 8) (r := (13, .aload_n 0, 1)) rfl
theorem dL_law_718 : decode cL_law 718 = .ok (.iload 5, 2) := sl_row agL_11 gL_11 (i := 9) (r := (14, .iload 5, 2)) rfl
theorem dL_law_720 : decode cL_law 720 = .ok (.iconst 1, 1) := sl_row agL_11 gL_11 (i := 10) (r := (16, .iconst 1, 1)) rfl
theorem dL_law_721 : decode cL_law 721 = .ok (.iadd, 1) := sl_row agL_11 gL_11 (i := 11) (r := (17, .iadd, 1)) rfl
theorem dL_law_722 : decode cL_law 722 = .ok (.iaload, 1) := sl_row agL_11 gL_11 (i := 12) (r := (18, .iaload, 1)) rfl
theorem dL_law_723 : decode cL_law 723 = .ok (.aload_n 3, 1) := sl_row agL_11 gL_11 (i := 13) (r := (19, .aload_n 3, 1)) rfl
theorem dL_law_724 : decode cL_law 724 = .ok (.invokestatic 172, 3) := sl_row agL_11 gL_11 (i := 14) (r := (20, .invokestatic 172, 3)) rfl
theorem dL_law_727 : decode cL_law 727 = .ok (.istore 6, 2) := sl_row agL_11 gL_11 (i := 15) (r := (23, .istore 6, 2)) rfl
theorem dL_law_729 : decode cL_law 729 = .ok (.aload_n 2, 1) := sl_row agL_11 gL_11 (i := 16) (r := (25, .aload_n 2, 1)) rfl
theorem dL_law_730 : decode cL_law 730 = .ok (.aload_n 0, 1) := sl_row agL_11 gL_11 (i := 17) (r := (26, .aload_n 0, 1)) rfl
theorem dL_law_731 : decode cL_law 731 = .ok (.iload 5, 2) := sl_row agL_11 gL_11 (i := 18) (r := (27, .iload 5, 2)) rfl
theorem dL_law_733 : decode cL_law 733 = .ok (.iconst 1, 1) := sl_row agL_11 gL_11 (i := 19) (r := (29, .iconst 1, 1)) rfl
theorem dL_law_734 : decode cL_law 734 = .ok (.iadd, 1) := sl_row agL_11 gL_11 (i := 20) (r := (30, .iadd, 1)) rfl
theorem dL_law_735 : decode cL_law 735 = .ok (.iaload, 1) := sl_row agL_11 gL_11 (i := 21) (r := (31, .iaload, 1)) rfl
theorem dL_law_736 : decode cL_law 736 = .ok (.invokevirtual 174, 3) := sl_row agL_11 gL_11 (i := 22) (r := (32, .invokevirtual 174, 3)) rfl
theorem dL_law_739 : decode cL_law 739 = .ok (.istore 7, 2) := sl_row agL_11 gL_11 (i := 23) (r := (35, .istore 7, 2)) rfl
theorem dL_law_741 : decode cL_law 741 = .ok (.aload_n 2, 1) := sl_row agL_11 gL_11 (i := 24) (r := (37, .aload_n 2, 1)) rfl
theorem dL_law_742 : decode cL_law 742 = .ok (.invokevirtual 149, 3) := sl_row agL_11 gL_11 (i := 25) (r := (38, .invokevirtual 149, 3)) rfl
theorem dL_law_745 : decode cL_law 745 = .ok (.iload 6, 2) := sl_row agL_11 gL_11 (i := 26) (r := (41, .iload 6, 2)) rfl
theorem dL_law_747 : decode cL_law 747 = .ok (.if_icmp .eq 5, 3) := sl_row agL_11 gL_11 (i := 27) (r := (43, .if_icmp .eq 5, 3)) rfl
theorem dL_law_750 : decode cL_law 750 = .ok (.iconst 0, 1) := sl_row agL_11 gL_11 (i := 28) (r := (46, .iconst 0, 1)) rfl
theorem dL_law_751 : decode cL_law 751 = .ok (.ireturn, 1) := sl_row agL_11 gL_11 (i := 29) (r := (47, .ireturn, 1)) rfl
theorem dL_law_752 : decode cL_law 752 = .ok (.iload 6, 2) := sl_row agL_11 gL_11 (i := 30) (r := (48, .iload 6, 2)) rfl
theorem dL_law_754 : decode cL_law 754 = .ok (.ifCond .ne 15, 3) := sl_row agL_11 gL_11 (i := 31) (r := (50, .ifCond .ne 15, 3)) rfl
theorem dL_law_757 : decode cL_law 757 = .ok (.aload_n 3, 1) := sl_row agL_11 gL_11 (i := 32) (r := (53, .aload_n 3, 1)) rfl
theorem dL_law_758 : decode cL_law 758 = .ok (.iconst 0, 1) := sl_row agL_11 gL_11 (i := 33) (r := (54, .iconst 0, 1)) rfl
theorem dL_law_759 : decode cL_law 759 = .ok (.laload, 1) := sl_row agL_11 gL_11 (i := 34) (r := (55, .laload, 1)) rfl
theorem dL_law_760 : decode cL_law 760 = .ok (.iload 7, 2) := sl_row agL_11 gL_11 (i := 35) (r := (56, .iload 7, 2)) rfl
theorem dL_law_762 : decode cL_law 762 = .ok (.i2l, 1) := sl_row agL_11 gL_11 (i := 36) (r := (58, .i2l, 1)) rfl
theorem dL_law_763 : decode cL_law 763 = .ok (.lcmp, 1) := sl_row agL_11 gL_11 (i := 37) (r := (59, .lcmp, 1)) rfl
theorem dL_law_764 : decode cL_law 764 = .ok (.ifCond .eq 5, 3) := sl_row agL_11 gL_11 (i := 38) (r := (60, .ifCond .eq 5, 3)) rfl
theorem dL_law_767 : decode cL_law 767 = .ok (.iconst 0, 1) := sl_row agL_11 gL_11 (i := 39) (r := (63, .iconst 0, 1)) rfl
def ck_12 : ByteArray := .mk #[0xac, 0xa7, 0x08, 0x8c, 0x2b, 0x2a, 0x15, 0x05, 0x04, 0x60, 0x2e, 0x2a, 0x15, 0x05, 0x05, 0x60, 0x2e, 0x2d, 0xb8, 0x00, 0xaf, 0x36, 0x06, 0x2c, 0x2a, 0x15, 0x05, 0x04, 0x60, 0x2e, 0x2a, 0x15, 0x05, 0x05, 0x60, 0x2e, 0xb6, 0x00, 0xb1, 0x36, 0x07, 0x2c, 0xb6, 0x00, 0x95, 0x15, 0x06, 0x9f, 0x00, 0x05, 0x03, 0xac, 0x15, 0x06, 0x9a, 0x00, 0x0f, 0x2d, 0x03, 0x2f, 0x15, 0x07, 0x85, 0x94, 0x99, 0x00, 0x05, 0x03]
set_option maxRecDepth 20000 in
theorem agL_12 : ∀ q, agB cL_law ck_12 (768 + q) q := agB_of 768 (by decide +kernel)
def tL_12 : List (Nat × Instr × Nat) := [(0, .ireturn, 1), (1, .goto 2188, 3), (4, .aload_n 1, 1), (5, .aload_n 0, 1), (6, .iload 5, 2), (8, .iconst 1, 1), (9, .iadd, 1), (10, .iaload, 1), (11, .aload_n 0, 1), (12, .iload 5, 2), (14, .iconst 2, 1), (15, .iadd, 1), (16, .iaload, 1), (17, .aload_n 3, 1), (18, .invokestatic 175, 3), (21, .istore 6, 2), (23, .aload_n 2, 1), (24, .aload_n 0, 1), (25, .iload 5, 2), (27, .iconst 1, 1), (28, .iadd, 1), (29, .iaload, 1), (30, .aload_n 0, 1), (31, .iload 5, 2), (33, .iconst 2, 1), (34, .iadd, 1), (35, .iaload, 1), (36, .invokevirtual 177, 3), (39, .istore 7, 2), (41, .aload_n 2, 1), (42, .invokevirtual 149, 3), (45, .iload 6, 2), (47, .if_icmp .eq 5, 3), (50, .iconst 0, 1), (51, .ireturn, 1), (52, .iload 6, 2), (54, .ifCond .ne 15, 3), (57, .aload_n 3, 1), (58, .iconst 0, 1), (59, .laload, 1), (60, .iload 7, 2), (62, .i2l, 1), (63, .lcmp, 1)]
theorem gL_12 : tL_12.all (fun r => opB ck_12 r.1 && decide (decode ck_12 r.1 = .ok (r.2.1, r.2.2))) = true := by decide +kernel
theorem dL_law_768 : decode cL_law 768 = .ok (.ireturn, 1) := sl_row agL_12 gL_12 (i := 0) (r := (0, .ireturn, 1)) rfl
theorem dL_law_769 : decode cL_law 769 = .ok (.goto 2188, 3) := sl_row agL_12 gL_12 (i := 1) (r := (1, .goto 2188, 3)) rfl
theorem dL_law_772 : decode cL_law 772 = .ok (.aload_n 1, 1) := sl_row agL_12 gL_12 (i := 2) (r := (4, .aload_n 1, 1)) rfl
theorem dL_law_773 : decode cL_law 773 = .ok (.aload_n 0, 1) := sl_row agL_12 gL_12 (i := 3) (r := (5, .aload_n 0, 1)) rfl
theorem dL_law_774 : decode cL_law 774 = .ok (.iload 5, 2) := sl_row agL_12 gL_12 (i := 4) (r := (6, .iload 5, 2)) rfl
theorem dL_law_776 : decode cL_law 776 = .ok (.iconst 1, 1) := sl_row agL_12 gL_12 (i := 5) (r := (8, .iconst 1, 1)) rfl
theorem dL_law_777 : decode cL_law 777 = .ok (.iadd, 1) := sl_row agL_12 gL_12 (i := 6) (r := (9, .iadd, 1)) rfl
theorem dL_law_778 : decode cL_law 778 = .ok (.iaload, 1) := sl_row agL_12 gL_12 (i := 7) (r := (10, .iaload, 1)) rfl
theorem dL_law_779 : decode cL_law 779 = .ok (.aload_n 0, 1) := sl_row agL_12 gL_12 (i := 8) (r := (11, .aload_n 0, 1)) rfl
theorem dL_law_780 : decode cL_law 780 = .ok (.iload 5, 2) := sl_row agL_12 gL_12 (i := 9) (r := (12, .iload 5, 2)) rfl
theorem dL_law_782 : decode cL_law 782 = .ok (.iconst 2, 1) := sl_row agL_12 gL_12 (i := 10) (r := (14, .iconst 2, 1)) rfl
theorem dL_law_783 : decode cL_law 783 = .ok (.iadd, 1) := sl_row agL_12 gL_12 (i := 11) (r := (15, .iadd, 1)) rfl
theorem dL_law_784 : decode cL_law 784 = .ok (.iaload, 1) := sl_row agL_12 gL_12 (i := 12) (r := (16, .iaload, 1)) rfl
theorem dL_law_785 : decode cL_law 785 = .ok (.aload_n 3, 1) := sl_row agL_12 gL_12 (i := 13) (r := (17, .aload_n 3, 1)) rfl
theorem dL_law_786 : decode cL_law 786 = .ok (.invokestatic 175, 3) := sl_row agL_12 gL_12 (i := 14) (r := (18, .invokestatic 175, 3)) rfl
theorem dL_law_789 : decode cL_law 789 = .ok (.istore 6, 2) := sl_row agL_12 gL_12 (i := 15) (r := (21, .istore 6, 2)) rfl
theorem dL_law_791 : decode cL_law 791 = .ok (.aload_n 2, 1) := sl_row agL_12 gL_12 (i := 16) (r := (23, .aload_n 2, 1)) rfl
theorem dL_law_792 : decode cL_law 792 = .ok (.aload_n 0, 1) := sl_row agL_12 gL_12 (i := 17) (r := (24, .aload_n 0, 1)) rfl
theorem dL_law_793 : decode cL_law 793 = .ok (.iload 5, 2) := sl_row agL_12 gL_12 (i := 18) (r := (25, .iload 5, 2)) rfl
theorem dL_law_795 : decode cL_law 795 = .ok (.iconst 1, 1) := sl_row agL_12 gL_12 (i := 19) (r := (27, .iconst 1, 1)) rfl
theorem dL_law_796 : decode cL_law 796 = .ok (.iadd, 1) := sl_row agL_12 gL_12 (i := 20) (r := (28, .iadd, 1)) rfl
theorem dL_law_797 : decode cL_law 797 = .ok (.iaload, 1) := sl_row agL_12 gL_12 (i := 21) (r := (29, .iaload, 1)) rfl
theorem dL_law_798 : decode cL_law 798 = .ok (.aload_n 0, 1) := sl_row agL_12 gL_12 (i := 22) (r := (30, .aload_n 0, 1)) rfl
theorem dL_law_799 : decode cL_law 799 = .ok (.iload 5, 2) := sl_row agL_12 gL_12 (i := 23) (r := (31, .iload 5, 2)) rfl
theorem dL_law_801 : decode cL_law 801 = .ok (.iconst 2, 1) := sl_row agL_12 gL_12 (i := 24) (r := (33, .iconst 2, 1)) rfl
theorem dL_law_802 : decode cL_law 802 = .ok (.iadd, 1) := sl_row agL_12 gL_12 (i := 25) (r := (34, .iadd, 1)) rfl
theorem dL_law_803 : decode cL_law 803 = .ok (.iaload, 1) := sl_row agL_12 gL_12 (i := 26) (r := (35, .iaload, 1)) rfl
theorem dL_law_804 : decode cL_law 804 = .ok (.invokevirtual 177, 3) := sl_row agL_12 gL_12 (i := 27) (r := (36, .invokevirtual 177, 3)) rfl
theorem dL_law_807 : decode cL_law 807 = .ok (.istore 7, 2) := sl_row agL_12 gL_12 (i := 28) (r := (39, .istore 7, 2)) rfl
theorem dL_law_809 : decode cL_law 809 = .ok (.aload_n 2, 1) := sl_row agL_12 gL_12 (i := 29) (r := (41, .aload_n 2, 1)) rfl
theorem dL_law_810 : decode cL_law 810 = .ok (.invokevirtual 149, 3) := sl_row agL_12 gL_12 (i := 30) (r := (42, .invokevirtual 149, 3)) rfl
theorem dL_law_813 : decode cL_law 813 = .ok (.iload 6, 2) := sl_row agL_12 gL_12 (i := 31) (r := (45, .iload 6, 2)) rfl
theorem dL_law_815 : decode cL_law 815 = .ok (.if_icmp .eq 5, 3) := sl_row agL_12 gL_12 (i := 32) (r := (47, .if_icmp .eq 5, 3)) rfl
theorem dL_law_818 : decode cL_law 818 = .ok (.iconst 0, 1) := sl_row agL_12 gL_12 (i := 33) (r := (50, .iconst 0, 1)) rfl
theorem dL_law_819 : decode cL_law 819 = .ok (.ireturn, 1) := sl_row agL_12 gL_12 (i := 34) (r := (51, .ireturn, 1)) rfl
theorem dL_law_820 : decode cL_law 820 = .ok (.iload 6, 2) := sl_row agL_12 gL_12 (i := 35) (r := (52, .iload 6, 2)) rfl
theorem dL_law_822 : decode cL_law 822 = .ok (.ifCond .ne 15, 3) := sl_row agL_12 gL_12 (i := 36) (r := (54, .ifCond .ne 15, 3)) rfl
theorem dL_law_825 : decode cL_law 825 = .ok (.aload_n 3, 1) := sl_row agL_12 gL_12 (i := 37) (r := (57, .aload_n 3, 1)) rfl
theorem dL_law_826 : decode cL_law 826 = .ok (.iconst 0, 1) := sl_row agL_12 gL_12 (i := 38) (r := (58, .iconst 0, 1)) rfl
theorem dL_law_827 : decode cL_law 827 = .ok (.laload, 1) := sl_row agL_12 gL_12 (i := 39) (r := (59, .laload, 1)) rfl
theorem dL_law_828 : decode cL_law 828 = .ok (.iload 7, 2) := sl_row agL_12 gL_12 (i := 40) (r := (60, .iload 7, 2)) rfl
theorem dL_law_830 : decode cL_law 830 = .ok (.i2l, 1) := sl_row agL_12 gL_12 (i := 41) (r := (62, .i2l, 1)) rfl
theorem dL_law_831 : decode cL_law 831 = .ok (.lcmp, 1) := sl_row agL_12 gL_12 (i := 42) (r := (63, .lcmp, 1)) rfl
def ck_13 : ByteArray := .mk #[0x99, 0x00, 0x05, 0x03, 0xac, 0xa7, 0x08, 0x48, 0x2b, 0x2a, 0x15, 0x05, 0x04, 0x60, 0x2e, 0x2a, 0x15, 0x05, 0x05, 0x60, 0x2e, 0x2d, 0xb8, 0x00, 0xb2, 0x36, 0x06, 0x2c, 0x2a, 0x15, 0x05, 0x04, 0x60, 0x2e, 0x2a, 0x15, 0x05, 0x05, 0x60, 0x2e, 0xb6, 0x00, 0xb4, 0x36, 0x07, 0x2c, 0xb6, 0x00, 0x95, 0x15, 0x06, 0x9f, 0x00, 0x05, 0x03, 0xac, 0x15, 0x06, 0x9a, 0x00, 0x0f, 0x2d, 0x03, 0x2f, 0x15, 0x07, 0x85, 0x94]
set_option maxRecDepth 20000 in
theorem agL_13 : ∀ q, agB cL_law ck_13 (832 + q) q := agB_of 832 (by decide +kernel)
def tL_13 : List (Nat × Instr × Nat) := [(0, .ifCond .eq 5, 3), (3, .iconst 0, 1), (4, .ireturn, 1), (5, .goto 2120, 3), (8, .aload_n 1, 1), (9, .aload_n 0, 1), (10, .iload 5, 2), (12, .iconst 1, 1), (13, .iadd, 1), (14, .iaload, 1), (15, .aload_n 0, 1), (16, .iload 5, 2), (18, .iconst 2, 1), (19, .iadd, 1), (20, .iaload, 1), (21, .aload_n 3, 1), (22, .invokestatic 178, 3), (25, .istore 6, 2), (27, .aload_n 2, 1), (28, .aload_n 0, 1), (29, .iload 5, 2), (31, .iconst 1, 1), (32, .iadd, 1), (33, .iaload, 1), (34, .aload_n 0, 1), (35, .iload 5, 2), (37, .iconst 2, 1), (38, .iadd, 1), (39, .iaload, 1), (40, .invokevirtual 180, 3), (43, .istore 7, 2), (45, .aload_n 2, 1), (46, .invokevirtual 149, 3), (49, .iload 6, 2), (51, .if_icmp .eq 5, 3), (54, .iconst 0, 1), (55, .ireturn, 1), (56, .iload 6, 2), (58, .ifCond .ne 15, 3), (61, .aload_n 3, 1), (62, .iconst 0, 1), (63, .laload, 1)]
theorem gL_13 : tL_13.all (fun r => opB ck_13 r.1 && decide (decode ck_13 r.1 = .ok (r.2.1, r.2.2))) = true := by decide +kernel
theorem dL_law_832 : decode cL_law 832 = .ok (.ifCond .eq 5, 3) := sl_row agL_13 gL_13 (i := 0) (r := (0, .ifCond .eq 5, 3)) rfl
theorem dL_law_835 : decode cL_law 835 = .ok (.iconst 0, 1) := sl_row agL_13 gL_13 (i := 1) (r := (3, .iconst 0, 1)) rfl
theorem dL_law_836 : decode cL_law 836 = .ok (.ireturn, 1) := sl_row agL_13 gL_13 (i := 2) (r := (4, .ireturn, 1)) rfl
theorem dL_law_837 : decode cL_law 837 = .ok (.goto 2120, 3) := sl_row agL_13 gL_13 (i := 3) (r := (5, .goto 2120, 3)) rfl
theorem dL_law_840 : decode cL_law 840 = .ok (.aload_n 1, 1) := sl_row agL_13 gL_13 (i := 4) (r := (8, .aload_n 1, 1)) rfl
theorem dL_law_841 : decode cL_law 841 = .ok (.aload_n 0, 1) := sl_row agL_13 gL_13 (i := 5) (r := (9, .aload_n 0, 1)) rfl
theorem dL_law_842 : decode cL_law 842 = .ok (.iload 5, 2) := sl_row agL_13 gL_13 (i := 6) (r := (10, .iload 5, 2)) rfl
theorem dL_law_844 : decode cL_law 844 = .ok (.iconst 1, 1) := sl_row agL_13 gL_13 (i := 7) (r := (12, .iconst 1, 1)) rfl
theorem dL_law_845 : decode cL_law 845 = .ok (.iadd, 1) := sl_row agL_13 gL_13 (i := 8) (r := (13, .iadd, 1)) rfl
theorem dL_law_846 : decode cL_law 846 = .ok (.iaload, 1) := sl_row agL_13 gL_13 (i := 9) (r := (14, .iaload, 1)) rfl
theorem dL_law_847 : decode cL_law 847 = .ok (.aload_n 0, 1) := sl_row agL_13 gL_13 (i := 10) (r := (15, .aload_n 0, 1)) rfl
theorem dL_law_848 : decode cL_law 848 = .ok (.iload 5, 2) := sl_row agL_13 gL_13 (i := 11) (r := (16, .iload 5, 2)) rfl
theorem dL_law_850 : decode cL_law 850 = .ok (.iconst 2, 1) := sl_row agL_13 gL_13 (i := 12) (r := (18, .iconst 2, 1)) rfl
theorem dL_law_851 : decode cL_law 851 = .ok (.iadd, 1) := sl_row agL_13 gL_13 (i := 13) (r := (19, .iadd, 1)) rfl
theorem dL_law_852 : decode cL_law 852 = .ok (.iaload, 1) := sl_row agL_13 gL_13 (i := 14) (r := (20, .iaload, 1)) rfl
theorem dL_law_853 : decode cL_law 853 = .ok (.aload_n 3, 1) := sl_row agL_13 gL_13 (i := 15) (r := (21, .aload_n 3, 1)) rfl
theorem dL_law_854 : decode cL_law 854 = .ok (.invokestatic 178, 3) := sl_row agL_13 gL_13 (i := 16) (r := (22, .invokestatic 178, 3)) rfl
theorem dL_law_857 : decode cL_law 857 = .ok (.istore 6, 2) := sl_row agL_13 gL_13 (i := 17) (r := (25, .istore 6, 2)) rfl
theorem dL_law_859 : decode cL_law 859 = .ok (.aload_n 2, 1) := sl_row agL_13 gL_13 (i := 18) (r := (27, .aload_n 2, 1)) rfl
theorem dL_law_860 : decode cL_law 860 = .ok (.aload_n 0, 1) := sl_row agL_13 gL_13 (i := 19) (r := (28, .aload_n 0, 1)) rfl
theorem dL_law_861 : decode cL_law 861 = .ok (.iload 5, 2) := sl_row agL_13 gL_13 (i := 20) (r := (29, .iload 5, 2)) rfl
theorem dL_law_863 : decode cL_law 863 = .ok (.iconst 1, 1) := sl_row agL_13 gL_13 (i := 21) (r := (31, .iconst 1, 1)) rfl
theorem dL_law_864 : decode cL_law 864 = .ok (.iadd, 1) := sl_row agL_13 gL_13 (i := 22) (r := (32, .iadd, 1)) rfl
theorem dL_law_865 : decode cL_law 865 = .ok (.iaload, 1) := sl_row agL_13 gL_13 (i := 23) (r := (33, .iaload, 1)) rfl
theorem dL_law_866 : decode cL_law 866 = .ok (.aload_n 0, 1) := sl_row agL_13 gL_13 (i := 24) (r := (34, .aload_n 0, 1)) rfl
theorem dL_law_867 : decode cL_law 867 = .ok (.iload 5, 2) := sl_row agL_13 gL_13 (i := 25) (r := (35, .iload 5, 2)) rfl
theorem dL_law_869 : decode cL_law 869 = .ok (.iconst 2, 1) := sl_row agL_13 gL_13 (i := 26) (r := (37, .iconst 2, 1)) rfl
theorem dL_law_870 : decode cL_law 870 = .ok (.iadd, 1) := sl_row agL_13 gL_13 (i := 27) (r := (38, .iadd, 1)) rfl
theorem dL_law_871 : decode cL_law 871 = .ok (.iaload, 1) := sl_row agL_13 gL_13 (i := 28) (r := (39, .iaload, 1)) rfl
theorem dL_law_872 : decode cL_law 872 = .ok (.invokevirtual 180, 3) := sl_row agL_13 gL_13 (i := 29) (r := (40, .invokevirtual 180, 3)) rfl
theorem dL_law_875 : decode cL_law 875 = .ok (.istore 7, 2) := sl_row agL_13 gL_13 (i := 30) (r := (43, .istore 7, 2)) rfl
theorem dL_law_877 : decode cL_law 877 = .ok (.aload_n 2, 1) := sl_row agL_13 gL_13 (i := 31) (r := (45, .aload_n 2, 1)) rfl
theorem dL_law_878 : decode cL_law 878 = .ok (.invokevirtual 149, 3) := sl_row agL_13 gL_13 (i := 32) (r := (46, .invokevirtual 149, 3)) rfl
theorem dL_law_881 : decode cL_law 881 = .ok (.iload 6, 2) := sl_row agL_13 gL_13 (i := 33) (r := (49, .iload 6, 2)) rfl
theorem dL_law_883 : decode cL_law 883 = .ok (.if_icmp .eq 5, 3) := sl_row agL_13 gL_13 (i := 34) (r := (51, .if_icmp .eq 5, 3)) rfl
theorem dL_law_886 : decode cL_law 886 = .ok (.iconst 0, 1) := sl_row agL_13 gL_13 (i := 35) (r := (54, .iconst 0, 1)) rfl
theorem dL_law_887 : decode cL_law 887 = .ok (.ireturn, 1) := sl_row agL_13 gL_13 (i := 36) (r := (55, .ireturn, 1)) rfl
theorem dL_law_888 : decode cL_law 888 = .ok (.iload 6, 2) := sl_row agL_13 gL_13 (i := 37) (r := (56, .iload 6, 2)) rfl
theorem dL_law_890 : decode cL_law 890 = .ok (.ifCond .ne 15, 3) := sl_row agL_13 gL_13 (i := 38) (r := (58, .ifCond .ne 15, 3)) rfl
theorem dL_law_893 : decode cL_law 893 = .ok (.aload_n 3, 1) := sl_row agL_13 gL_13 (i := 39) (r := (61, .aload_n 3, 1)) rfl
theorem dL_law_894 : decode cL_law 894 = .ok (.iconst 0, 1) := sl_row agL_13 gL_13 (i := 40) (r := (62, .iconst 0, 1)) rfl
theorem dL_law_895 : decode cL_law 895 = .ok (.laload, 1) := sl_row agL_13 gL_13 (i := 41) (r := (63, .laload, 1)) rfl
def ck_14 : ByteArray := .mk #[0x15, 0x07, 0x85, 0x94, 0x99, 0x00, 0x05, 0x03, 0xac, 0xa7, 0x08, 0x04, 0x2b, 0x2a, 0x15, 0x05, 0x04, 0x60, 0x2e, 0x2d, 0xb8, 0x00, 0xb5, 0x36, 0x06, 0x2c, 0x2a, 0x15, 0x05, 0x04, 0x60, 0x2e, 0xb6, 0x00, 0xb7, 0x36, 0x07, 0x2c, 0xb6, 0x00, 0x95, 0x15, 0x06, 0x9f, 0x00, 0x05, 0x03, 0xac, 0x15, 0x06, 0x9a, 0x00, 0x0f, 0x2d, 0x03, 0x2f, 0x15, 0x07, 0x85, 0x94, 0x99, 0x00, 0x05, 0x03, 0xac, 0xa7, 0x07, 0xcc]
set_option maxRecDepth 20000 in
theorem agL_14 : ∀ q, agB cL_law ck_14 (896 + q) q := agB_of 896 (by decide +kernel)
def tL_14 : List (Nat × Instr × Nat) := [(0, .iload 7, 2), (2, .i2l, 1), (3, .lcmp, 1), (4, .ifCond .eq 5, 3), (7, .iconst 0, 1), (8, .ireturn, 1), (9, .goto 2052, 3), (12, .aload_n 1, 1), (13, .aload_n 0, 1), (14, .iload 5, 2), (16, .iconst 1, 1), (17, .iadd, 1), (18, .iaload, 1), (19, .aload_n 3, 1), (20, .invokestatic 181, 3), (23, .istore 6, 2), (25, .aload_n 2, 1), (26, .aload_n 0, 1), (27, .iload 5, 2), (29, .iconst 1, 1), (30, .iadd, 1), (31, .iaload, 1), (32, .invokevirtual 183, 3), (35, .istore 7, 2), (37, .aload_n 2, 1), (38, .invokevirtual 149, 3), (41, .iload 6, 2), (43, .if_icmp .eq 5, 3), (46, .iconst 0, 1), (47, .ireturn, 1), (48, .iload 6, 2), (50, .ifCond .ne 15, 3), (53, .aload_n 3, 1), (54, .iconst 0, 1), (55, .laload, 1), (56, .iload 7, 2), (58, .i2l, 1), (59, .lcmp, 1), (60, .ifCond .eq 5, 3), (63, .iconst 0, 1)]
theorem gL_14 : tL_14.all (fun r => opB ck_14 r.1 && decide (decode ck_14 r.1 = .ok (r.2.1, r.2.2))) = true := by decide +kernel
theorem dL_law_896 : decode cL_law 896 = .ok (.iload 7, 2) := sl_row agL_14 gL_14 (i := 0) (r := (0, .iload 7, 2)) rfl
theorem dL_law_898 : decode cL_law 898 = .ok (.i2l, 1) := sl_row agL_14 gL_14 (i := 1) (r := (2, .i2l, 1)) rfl
theorem dL_law_899 : decode cL_law 899 = .ok (.lcmp, 1) := sl_row agL_14 gL_14 (i := 2) (r := (3, .lcmp, 1)) rfl
theorem dL_law_900 : decode cL_law 900 = .ok (.ifCond .eq 5, 3) := sl_row agL_14 gL_14 (i := 3) (r := (4, .ifCond .eq 5, 3)) rfl
theorem dL_law_903 : decode cL_law 903 = .ok (.iconst 0, 1) := sl_row agL_14 gL_14 (i := 4) (r := (7, .iconst 0, 1)) rfl
theorem dL_law_904 : decode cL_law 904 = .ok (.ireturn, 1) := sl_row agL_14 gL_14 (i := 5) (r := (8, .ireturn, 1)) rfl
theorem dL_law_905 : decode cL_law 905 = .ok (.goto 2052, 3) := sl_row agL_14 gL_14 (i := 6) (r := (9, .goto 2052, 3)) rfl
theorem dL_law_908 : decode cL_law 908 = .ok (.aload_n 1, 1) := sl_row agL_14 gL_14 (i := 7) (r := (12, .aload_n 1, 1)) rfl
theorem dL_law_909 : decode cL_law 909 = .ok (.aload_n 0, 1) := sl_row agL_14 gL_14 (i := 8) (r := (13, .aload_n 0, 1)) rfl
theorem dL_law_910 : decode cL_law 910 = .ok (.iload 5, 2) := sl_row agL_14 gL_14 (i := 9) (r := (14, .iload 5, 2)) rfl
theorem dL_law_912 : decode cL_law 912 = .ok (.iconst 1, 1) := sl_row agL_14 gL_14 (i := 10) (r := (16, .iconst 1, 1)) rfl
theorem dL_law_913 : decode cL_law 913 = .ok (.iadd, 1) := sl_row agL_14 gL_14 (i := 11) (r := (17, .iadd, 1)) rfl
theorem dL_law_914 : decode cL_law 914 = .ok (.iaload, 1) := sl_row agL_14 gL_14 (i := 12) (r := (18, .iaload, 1)) rfl
theorem dL_law_915 : decode cL_law 915 = .ok (.aload_n 3, 1) := sl_row agL_14 gL_14 (i := 13) (r := (19, .aload_n 3, 1)) rfl
theorem dL_law_916 : decode cL_law 916 = .ok (.invokestatic 181, 3) := sl_row agL_14 gL_14 (i := 14) (r := (20, .invokestatic 181, 3)) rfl
theorem dL_law_919 : decode cL_law 919 = .ok (.istore 6, 2) := sl_row agL_14 gL_14 (i := 15) (r := (23, .istore 6, 2)) rfl
theorem dL_law_921 : decode cL_law 921 = .ok (.aload_n 2, 1) := sl_row agL_14 gL_14 (i := 16) (r := (25, .aload_n 2, 1)) rfl
theorem dL_law_922 : decode cL_law 922 = .ok (.aload_n 0, 1) := sl_row agL_14 gL_14 (i := 17) (r := (26, .aload_n 0, 1)) rfl
theorem dL_law_923 : decode cL_law 923 = .ok (.iload 5, 2) := sl_row agL_14 gL_14 (i := 18) (r := (27, .iload 5, 2)) rfl
theorem dL_law_925 : decode cL_law 925 = .ok (.iconst 1, 1) := sl_row agL_14 gL_14 (i := 19) (r := (29, .iconst 1, 1)) rfl
theorem dL_law_926 : decode cL_law 926 = .ok (.iadd, 1) := sl_row agL_14 gL_14 (i := 20) (r := (30, .iadd, 1)) rfl
theorem dL_law_927 : decode cL_law 927 = .ok (.iaload, 1) := sl_row agL_14 gL_14 (i := 21) (r := (31, .iaload, 1)) rfl
theorem dL_law_928 : decode cL_law 928 = .ok (.invokevirtual 183, 3) := sl_row agL_14 gL_14 (i := 22) (r := (32, .invokevirtual 183, 3)) rfl
theorem dL_law_931 : decode cL_law 931 = .ok (.istore 7, 2) := sl_row agL_14 gL_14 (i := 23) (r := (35, .istore 7, 2)) rfl
theorem dL_law_933 : decode cL_law 933 = .ok (.aload_n 2, 1) := sl_row agL_14 gL_14 (i := 24) (r := (37, .aload_n 2, 1)) rfl
theorem dL_law_934 : decode cL_law 934 = .ok (.invokevirtual 149, 3) := sl_row agL_14 gL_14 (i := 25) (r := (38, .invokevirtual 149, 3)) rfl
theorem dL_law_937 : decode cL_law 937 = .ok (.iload 6, 2) := sl_row agL_14 gL_14 (i := 26) (r := (41, .iload 6, 2)) rfl
theorem dL_law_939 : decode cL_law 939 = .ok (.if_icmp .eq 5, 3) := sl_row agL_14 gL_14 (i := 27) (r := (43, .if_icmp .eq 5, 3)) rfl
theorem dL_law_942 : decode cL_law 942 = .ok (.iconst 0, 1) := sl_row agL_14 gL_14 (i := 28) (r := (46, .iconst 0, 1)) rfl
theorem dL_law_943 : decode cL_law 943 = .ok (.ireturn, 1) := sl_row agL_14 gL_14 (i := 29) (r := (47, .ireturn, 1)) rfl
theorem dL_law_944 : decode cL_law 944 = .ok (.iload 6, 2) := sl_row agL_14 gL_14 (i := 30) (r := (48, .iload 6, 2)) rfl
theorem dL_law_946 : decode cL_law 946 = .ok (.ifCond .ne 15, 3) := sl_row agL_14 gL_14 (i := 31) (r := (50, .ifCond .ne 15, 3)) rfl
theorem dL_law_949 : decode cL_law 949 = .ok (.aload_n 3, 1) := sl_row agL_14 gL_14 (i := 32) (r := (53, .aload_n 3, 1)) rfl
theorem dL_law_950 : decode cL_law 950 = .ok (.iconst 0, 1) := sl_row agL_14 gL_14 (i := 33) (r := (54, .iconst 0, 1)) rfl
theorem dL_law_951 : decode cL_law 951 = .ok (.laload, 1) := sl_row agL_14 gL_14 (i := 34) (r := (55, .laload, 1)) rfl
theorem dL_law_952 : decode cL_law 952 = .ok (.iload 7, 2) := sl_row agL_14 gL_14 (i := 35) (r := (56, .iload 7, 2)) rfl
theorem dL_law_954 : decode cL_law 954 = .ok (.i2l, 1) := sl_row agL_14 gL_14 (i := 36) (r := (58, .i2l, 1)) rfl
theorem dL_law_955 : decode cL_law 955 = .ok (.lcmp, 1) := sl_row agL_14 gL_14 (i := 37) (r := (59, .lcmp, 1)) rfl
theorem dL_law_956 : decode cL_law 956 = .ok (.ifCond .eq 5, 3) := sl_row agL_14 gL_14 (i := 38) (r := (60, .ifCond .eq 5, 3)) rfl
theorem dL_law_959 : decode cL_law 959 = .ok (.iconst 0, 1) := sl_row agL_14 gL_14 (i := 39) (r := (63, .iconst 0, 1)) rfl
def ck_15 : ByteArray := .mk #[0xac, 0xa7, 0x07, 0xcc, 0x2b, 0x2a, 0x15, 0x05, 0x04, 0x60, 0x2e, 0x2a, 0x15, 0x05, 0x05, 0x60, 0x2e, 0x2d, 0xb8, 0x00, 0xb8, 0x36, 0x06, 0x2c, 0x2a, 0x15, 0x05, 0x04, 0x60, 0x2e, 0x2a, 0x15, 0x05, 0x05, 0x60, 0x2e, 0xb6, 0x00, 0xba, 0x36, 0x07, 0x2c, 0xb6, 0x00, 0x95, 0x15, 0x06, 0x9f, 0x00, 0x05, 0x03, 0xac, 0x15, 0x06, 0x9a, 0x00, 0x0f, 0x2d, 0x03, 0x2f, 0x15, 0x07, 0x85, 0x94, 0x99, 0x00, 0x05, 0x03]
set_option maxRecDepth 20000 in
theorem agL_15 : ∀ q, agB cL_law ck_15 (960 + q) q := agB_of 960 (by decide +kernel)
def tL_15 : List (Nat × Instr × Nat) := [(0, .ireturn, 1), (1, .goto 1996, 3), (4, .aload_n 1, 1), (5, .aload_n 0, 1), (6, .iload 5, 2), (8, .iconst 1, 1), (9, .iadd, 1), (10, .iaload, 1), (11, .aload_n 0, 1), (12, .iload 5, 2), (14, .iconst 2, 1), (15, .iadd, 1), (16, .iaload, 1), (17, .aload_n 3, 1), (18, .invokestatic 184, 3), (21, .istore 6, 2), (23, .aload_n 2, 1), (24, .aload_n 0, 1), (25, .iload 5, 2), (27, .iconst 1, 1), (28, .iadd, 1), (29, .iaload, 1), (30, .aload_n 0, 1), (31, .iload 5, 2), (33, .iconst 2, 1), (34, .iadd, 1), (35, .iaload, 1), (36, .invokevirtual 186, 3), (39, .istore 7, 2), (41, .aload_n 2, 1), (42, .invokevirtual 149, 3), (45, .iload 6, 2), (47, .if_icmp .eq 5, 3), (50, .iconst 0, 1), (51, .ireturn, 1), (52, .iload 6, 2), (54, .ifCond .ne 15, 3), (57, .aload_n 3, 1), (58, .iconst 0, 1), (59, .laload, 1), (60, .iload 7, 2), (62, .i2l, 1), (63, .lcmp, 1)]
theorem gL_15 : tL_15.all (fun r => opB ck_15 r.1 && decide (decode ck_15 r.1 = .ok (r.2.1, r.2.2))) = true := by decide +kernel
theorem dL_law_960 : decode cL_law 960 = .ok (.ireturn, 1) := sl_row agL_15 gL_15 (i := 0) (r := (0, .ireturn, 1)) rfl
theorem dL_law_961 : decode cL_law 961 = .ok (.goto 1996, 3) := sl_row agL_15 gL_15 (i := 1) (r := (1, .goto 1996, 3)) rfl
theorem dL_law_964 : decode cL_law 964 = .ok (.aload_n 1, 1) := sl_row agL_15 gL_15 (i := 2) (r := (4, .aload_n 1, 1)) rfl
theorem dL_law_965 : decode cL_law 965 = .ok (.aload_n 0, 1) := sl_row agL_15 gL_15 (i := 3) (r := (5, .aload_n 0, 1)) rfl
theorem dL_law_966 : decode cL_law 966 = .ok (.iload 5, 2) := sl_row agL_15 gL_15 (i := 4) (r := (6, .iload 5, 2)) rfl
theorem dL_law_968 : decode cL_law 968 = .ok (.iconst 1, 1) := sl_row agL_15 gL_15 (i := 5) (r := (8, .iconst 1, 1)) rfl
theorem dL_law_969 : decode cL_law 969 = .ok (.iadd, 1) := sl_row agL_15 gL_15 (i := 6) (r := (9, .iadd, 1)) rfl
theorem dL_law_970 : decode cL_law 970 = .ok (.iaload, 1) := sl_row agL_15 gL_15 (i := 7) (r := (10, .iaload, 1)) rfl
theorem dL_law_971 : decode cL_law 971 = .ok (.aload_n 0, 1) := sl_row agL_15 gL_15 (i := 8) (r := (11, .aload_n 0, 1)) rfl
theorem dL_law_972 : decode cL_law 972 = .ok (.iload 5, 2) := sl_row agL_15 gL_15 (i := 9) (r := (12, .iload 5, 2)) rfl
theorem dL_law_974 : decode cL_law 974 = .ok (.iconst 2, 1) := sl_row agL_15 gL_15 (i := 10) (r := (14, .iconst 2, 1)) rfl
theorem dL_law_975 : decode cL_law 975 = .ok (.iadd, 1) := sl_row agL_15 gL_15 (i := 11) (r := (15, .iadd, 1)) rfl
theorem dL_law_976 : decode cL_law 976 = .ok (.iaload, 1) := sl_row agL_15 gL_15 (i := 12) (r := (16, .iaload, 1)) rfl
theorem dL_law_977 : decode cL_law 977 = .ok (.aload_n 3, 1) := sl_row agL_15 gL_15 (i := 13) (r := (17, .aload_n 3, 1)) rfl
theorem dL_law_978 : decode cL_law 978 = .ok (.invokestatic 184, 3) := sl_row agL_15 gL_15 (i := 14) (r := (18, .invokestatic 184, 3)) rfl
theorem dL_law_981 : decode cL_law 981 = .ok (.istore 6, 2) := sl_row agL_15 gL_15 (i := 15) (r := (21, .istore 6, 2)) rfl
theorem dL_law_983 : decode cL_law 983 = .ok (.aload_n 2, 1) := sl_row agL_15 gL_15 (i := 16) (r := (23, .aload_n 2, 1)) rfl
theorem dL_law_984 : decode cL_law 984 = .ok (.aload_n 0, 1) := sl_row agL_15 gL_15 (i := 17) (r := (24, .aload_n 0, 1)) rfl
theorem dL_law_985 : decode cL_law 985 = .ok (.iload 5, 2) := sl_row agL_15 gL_15 (i := 18) (r := (25, .iload 5, 2)) rfl
theorem dL_law_987 : decode cL_law 987 = .ok (.iconst 1, 1) := sl_row agL_15 gL_15 (i := 19) (r := (27, .iconst 1, 1)) rfl
theorem dL_law_988 : decode cL_law 988 = .ok (.iadd, 1) := sl_row agL_15 gL_15 (i := 20) (r := (28, .iadd, 1)) rfl
theorem dL_law_989 : decode cL_law 989 = .ok (.iaload, 1) := sl_row agL_15 gL_15 (i := 21) (r := (29, .iaload, 1)) rfl
theorem dL_law_990 : decode cL_law 990 = .ok (.aload_n 0, 1) := sl_row agL_15 gL_15 (i := 22) (r := (30, .aload_n 0, 1)) rfl
theorem dL_law_991 : decode cL_law 991 = .ok (.iload 5, 2) := sl_row agL_15 gL_15 (i := 23) (r := (31, .iload 5, 2)) rfl
theorem dL_law_993 : decode cL_law 993 = .ok (.iconst 2, 1) := sl_row agL_15 gL_15 (i := 24) (r := (33, .iconst 2, 1)) rfl
theorem dL_law_994 : decode cL_law 994 = .ok (.iadd, 1) := sl_row agL_15 gL_15 (i := 25) (r := (34, .iadd, 1)) rfl
theorem dL_law_995 : decode cL_law 995 = .ok (.iaload, 1) := sl_row agL_15 gL_15 (i := 26) (r := (35, .iaload, 1)) rfl
theorem dL_law_996 : decode cL_law 996 = .ok (.invokevirtual 186, 3) := sl_row agL_15 gL_15 (i := 27) (r := (36, .invokevirtual 186, 3)) rfl
theorem dL_law_999 : decode cL_law 999 = .ok (.istore 7, 2) := sl_row agL_15 gL_15 (i := 28) (r := (39, .istore 7, 2)) rfl
theorem dL_law_1001 : decode cL_law 1001 = .ok (.aload_n 2, 1) := sl_row agL_15 gL_15 (i := 29) (r := (41, .aload_n 2, 1)) rfl
theorem dL_law_1002 : decode cL_law 1002 = .ok (.invokevirtual 149, 3) := sl_row agL_15 gL_15 (i := 30) (r := (42, .invokevirtual 149, 3)) rfl
theorem dL_law_1005 : decode cL_law 1005 = .ok (.iload 6, 2) := sl_row agL_15 gL_15 (i := 31) (r := (45, .iload 6, 2)) rfl
theorem dL_law_1007 : decode cL_law 1007 = .ok (.if_icmp .eq 5, 3) := sl_row agL_15 gL_15 (i := 32) (r := (47, .if_icmp .eq 5, 3)) rfl
theorem dL_law_1010 : decode cL_law 1010 = .ok (.iconst 0, 1) := sl_row agL_15 gL_15 (i := 33) (r := (50, .iconst 0, 1)) rfl
theorem dL_law_1011 : decode cL_law 1011 = .ok (.ireturn, 1) := sl_row agL_15 gL_15 (i := 34) (r := (51, .ireturn, 1)) rfl
theorem dL_law_1012 : decode cL_law 1012 = .ok (.iload 6, 2) := sl_row agL_15 gL_15 (i := 35) (r := (52, .iload 6, 2)) rfl
theorem dL_law_1014 : decode cL_law 1014 = .ok (.ifCond .ne 15, 3) := sl_row agL_15 gL_15 (i := 36) (r := (54, .ifCond .ne 15, 3)) rfl
theorem dL_law_1017 : decode cL_law 1017 = .ok (.aload_n 3, 1) := sl_row agL_15 gL_15 (i := 37) (r := (57, .aload_n 3, 1)) rfl
theorem dL_law_1018 : decode cL_law 1018 = .ok (.iconst 0, 1) := sl_row agL_15 gL_15 (i := 38) (r := (58, .iconst 0, 1)) rfl
theorem dL_law_1019 : decode cL_law 1019 = .ok (.laload, 1) := sl_row agL_15 gL_15 (i := 39) (r := (59, .laload, 1)) rfl
theorem dL_law_1020 : decode cL_law 1020 = .ok (.iload 7, 2) := sl_row agL_15 gL_15 (i := 40) (r := (60, .iload 7, 2)) rfl
theorem dL_law_1022 : decode cL_law 1022 = .ok (.i2l, 1) := sl_row agL_15 gL_15 (i := 41) (r := (62, .i2l, 1)) rfl
theorem dL_law_1023 : decode cL_law 1023 = .ok (.lcmp, 1) := sl_row agL_15 gL_15 (i := 42) (r := (63, .lcmp, 1)) rfl
def ck_16 : ByteArray := .mk #[0x99, 0x00, 0x05, 0x03, 0xac, 0xa7, 0x07, 0x88, 0x2b, 0x2a, 0x15, 0x05, 0x04, 0x60, 0x2e, 0x2d, 0xb8, 0x00, 0xbb, 0x36, 0x06, 0x2c, 0x2a, 0x15, 0x05, 0x04, 0x60, 0x2e, 0xb6, 0x00, 0xbd, 0x36, 0x07, 0x2c, 0xb6, 0x00, 0x95, 0x15, 0x06, 0x9f, 0x00, 0x05, 0x03, 0xac, 0x15, 0x06, 0x9a, 0x00, 0x0f, 0x2d, 0x03, 0x2f, 0x15, 0x07, 0x85, 0x94, 0x99, 0x00, 0x05, 0x03, 0xac, 0xa7, 0x07, 0x50, 0x2b, 0xb6, 0x00, 0xbe]
set_option maxRecDepth 20000 in
theorem agL_16 : ∀ q, agB cL_law ck_16 (1024 + q) q := agB_of 1024 (by decide +kernel)
def tL_16 : List (Nat × Instr × Nat) := [(0, .ifCond .eq 5, 3), (3, .iconst 0, 1), (4, .ireturn, 1), (5, .goto 1928, 3), (8, .aload_n 1, 1), (9, .aload_n 0, 1), (10, .iload 5, 2), (12, .iconst 1, 1), (13, .iadd, 1), (14, .iaload, 1), (15, .aload_n 3, 1), (16, .invokestatic 187, 3), (19, .istore 6, 2), (21, .aload_n 2, 1), (22, .aload_n 0, 1), (23, .iload 5, 2), (25, .iconst 1, 1), (26, .iadd, 1), (27, .iaload, 1), (28, .invokevirtual 189, 3), (31, .istore 7, 2), (33, .aload_n 2, 1), (34, .invokevirtual 149, 3), (37, .iload 6, 2), (39, .if_icmp .eq 5, 3), (42, .iconst 0, 1), (43, .ireturn, 1), (44, .iload 6, 2), (46, .ifCond .ne 15, 3), (49, .aload_n 3, 1), (50, .iconst 0, 1), (51, .laload, 1), (52, .iload 7, 2), (54, .i2l, 1), (55, .lcmp, 1), (56, .ifCond .eq 5, 3), (59, .iconst 0, 1), (60, .ireturn, 1), (61, .goto 1872, 3)]
theorem gL_16 : tL_16.all (fun r => opB ck_16 r.1 && decide (decode ck_16 r.1 = .ok (r.2.1, r.2.2))) = true := by decide +kernel
theorem dL_law_1024 : decode cL_law 1024 = .ok (.ifCond .eq 5, 3) := sl_row agL_16 gL_16 (i := 0) (r := (0, .ifCond .eq 5, 3)) rfl
theorem dL_law_1027 : decode cL_law 1027 = .ok (.iconst 0, 1) := sl_row agL_16 gL_16 (i := 1) (r := (3, .iconst 0, 1)) rfl
theorem dL_law_1028 : decode cL_law 1028 = .ok (.ireturn, 1) := sl_row agL_16 gL_16 (i := 2) (r := (4, .ireturn, 1)) rfl
theorem dL_law_1029 : decode cL_law 1029 = .ok (.goto 1928, 3) := sl_row agL_16 gL_16 (i := 3) (r := (5, .goto 1928, 3)) rfl
theorem dL_law_1032 : decode cL_law 1032 = .ok (.aload_n 1, 1) := sl_row agL_16 gL_16 (i := 4) (r := (8, .aload_n 1, 1)) rfl
theorem dL_law_1033 : decode cL_law 1033 = .ok (.aload_n 0, 1) := sl_row agL_16 gL_16 (i := 5) (r := (9, .aload_n 0, 1)) rfl
theorem dL_law_1034 : decode cL_law 1034 = .ok (.iload 5, 2) := sl_row agL_16 gL_16 (i := 6) (r := (10, .iload 5, 2)) rfl
theorem dL_law_1036 : decode cL_law 1036 = .ok (.iconst 1, 1) := sl_row agL_16 gL_16 (i := 7) (r := (12, .iconst 1, 1)) rfl
theorem dL_law_1037 : decode cL_law 1037 = .ok (.iadd, 1) := sl_row agL_16 gL_16 (i := 8) (r := (13, .iadd, 1)) rfl
theorem dL_law_1038 : decode cL_law 1038 = .ok (.iaload, 1) := sl_row agL_16 gL_16 (i := 9) (r := (14, .iaload, 1)) rfl
theorem dL_law_1039 : decode cL_law 1039 = .ok (.aload_n 3, 1) := sl_row agL_16 gL_16 (i := 10) (r := (15, .aload_n 3, 1)) rfl
theorem dL_law_1040 : decode cL_law 1040 = .ok (.invokestatic 187, 3) := sl_row agL_16 gL_16 (i := 11) (r := (16, .invokestatic 187, 3)) rfl
theorem dL_law_1043 : decode cL_law 1043 = .ok (.istore 6, 2) := sl_row agL_16 gL_16 (i := 12) (r := (19, .istore 6, 2)) rfl
theorem dL_law_1045 : decode cL_law 1045 = .ok (.aload_n 2, 1) := sl_row agL_16 gL_16 (i := 13) (r := (21, .aload_n 2, 1)) rfl
theorem dL_law_1046 : decode cL_law 1046 = .ok (.aload_n 0, 1) := sl_row agL_16 gL_16 (i := 14) (r := (22, .aload_n 0, 1)) rfl
theorem dL_law_1047 : decode cL_law 1047 = .ok (.iload 5, 2) := sl_row agL_16 gL_16 (i := 15) (r := (23, .iload 5, 2)) rfl
theorem dL_law_1049 : decode cL_law 1049 = .ok (.iconst 1, 1) := sl_row agL_16 gL_16 (i := 16) (r := (25, .iconst 1, 1)) rfl
theorem dL_law_1050 : decode cL_law 1050 = .ok (.iadd, 1) := sl_row agL_16 gL_16 (i := 17) (r := (26, .iadd, 1)) rfl
theorem dL_law_1051 : decode cL_law 1051 = .ok (.iaload, 1) := sl_row agL_16 gL_16 (i := 18) (r := (27, .iaload, 1)) rfl
theorem dL_law_1052 : decode cL_law 1052 = .ok (.invokevirtual 189, 3) := sl_row agL_16 gL_16 (i := 19) (r := (28, .invokevirtual 189, 3)) rfl
theorem dL_law_1055 : decode cL_law 1055 = .ok (.istore 7, 2) := sl_row agL_16 gL_16 (i := 20) (r := (31, .istore 7, 2)) rfl
theorem dL_law_1057 : decode cL_law 1057 = .ok (.aload_n 2, 1) := sl_row agL_16 gL_16 (i := 21) (r := (33, .aload_n 2, 1)) rfl
theorem dL_law_1058 : decode cL_law 1058 = .ok (.invokevirtual 149, 3) := sl_row agL_16 gL_16 (i := 22) (r := (34, .invokevirtual 149, 3)) rfl
theorem dL_law_1061 : decode cL_law 1061 = .ok (.iload 6, 2) := sl_row agL_16 gL_16 (i := 23) (r := (37, .iload 6, 2)) rfl
theorem dL_law_1063 : decode cL_law 1063 = .ok (.if_icmp .eq 5, 3) := sl_row agL_16 gL_16 (i := 24) (r := (39, .if_icmp .eq 5, 3)) rfl
theorem dL_law_1066 : decode cL_law 1066 = .ok (.iconst 0, 1) := sl_row agL_16 gL_16 (i := 25) (r := (42, .iconst 0, 1)) rfl
theorem dL_law_1067 : decode cL_law 1067 = .ok (.ireturn, 1) := sl_row agL_16 gL_16 (i := 26) (r := (43, .ireturn, 1)) rfl
theorem dL_law_1068 : decode cL_law 1068 = .ok (.iload 6, 2) := sl_row agL_16 gL_16 (i := 27) (r := (44, .iload 6, 2)) rfl
theorem dL_law_1070 : decode cL_law 1070 = .ok (.ifCond .ne 15, 3) := sl_row agL_16 gL_16 (i := 28) (r := (46, .ifCond .ne 15, 3)) rfl
theorem dL_law_1073 : decode cL_law 1073 = .ok (.aload_n 3, 1) := sl_row agL_16 gL_16 (i := 29) (r := (49, .aload_n 3, 1)) rfl
theorem dL_law_1074 : decode cL_law 1074 = .ok (.iconst 0, 1) := sl_row agL_16 gL_16 (i := 30) (r := (50, .iconst 0, 1)) rfl
theorem dL_law_1075 : decode cL_law 1075 = .ok (.laload, 1) := sl_row agL_16 gL_16 (i := 31) (r := (51, .laload, 1)) rfl
theorem dL_law_1076 : decode cL_law 1076 = .ok (.iload 7, 2) := sl_row agL_16 gL_16 (i := 32) (r := (52, .iload 7, 2)) rfl
theorem dL_law_1078 : decode cL_law 1078 = .ok (.i2l, 1) := sl_row agL_16 gL_16 (i := 33) (r := (54, .i2l, 1)) rfl
theorem dL_law_1079 : decode cL_law 1079 = .ok (.lcmp, 1) := sl_row agL_16 gL_16 (i := 34) (r := (55, .lcmp, 1)) rfl
theorem dL_law_1080 : decode cL_law 1080 = .ok (.ifCond .eq 5, 3) := sl_row agL_16 gL_16 (i := 35) (r := (56, .ifCond .eq 5, 3)) rfl
theorem dL_law_1083 : decode cL_law 1083 = .ok (.iconst 0, 1) := sl_row agL_16 gL_16 (i := 36) (r := (59, .iconst 0, 1)) rfl
theorem dL_law_1084 : decode cL_law 1084 = .ok (.ireturn, 1) := sl_row agL_16 gL_16 (i := 37) (r := (60, .ireturn, 1)) rfl
theorem dL_law_1085 : decode cL_law 1085 = .ok (.goto 1872, 3) := sl_row agL_16 gL_16 (i := 38) (r := (61, .goto 1872, 3)) rfl
def ck_17 : ByteArray := .mk #[0x2b, 0xb6, 0x00, 0xbe, 0x2c, 0xb6, 0x00, 0xc1, 0x9f, 0x07, 0x45, 0x03, 0xac, 0x2b, 0x2a, 0x15, 0x05, 0x04, 0x60, 0x2e, 0x2a, 0x15, 0x05, 0x05, 0x60, 0x2e, 0x99, 0x00, 0x07, 0x04, 0xa7, 0x00, 0x04, 0x03, 0x2d, 0xb8, 0x00, 0xc2, 0x36, 0x06, 0x2c, 0x2a, 0x15, 0x05, 0x04, 0x60, 0x2e, 0x2a, 0x15, 0x05, 0x05, 0x60, 0x2e, 0x99, 0x00, 0x07, 0x04, 0xa7, 0x00, 0x04, 0x03, 0xb6, 0x00, 0xc5, 0x36, 0x07, 0x2c, 0xb6]
set_option maxRecDepth 20000 in
theorem agL_17 : ∀ q, agB cL_law ck_17 (1088 + q) q := agB_of 1088 (by decide +kernel)
def tL_17 : List (Nat × Instr × Nat) := [(0, .aload_n 1, 1), (1, .invokevirtual 190, 3), (4, .aload_n 2, 1), (5, .invokevirtual 193, 3), (8, .if_icmp .eq 1861, 3), (11, .iconst 0, 1), (12, .ireturn, 1), (13, .aload_n 1, 1), (14, .aload_n 0, 1), (15, .iload 5, 2), (17, .iconst 1, 1), (18, .iadd, 1), (19, .iaload, 1), (20, .aload_n 0, 1), (21, .iload 5, 2), (23, .iconst 2, 1), (24, .iadd, 1), (25, .iaload, 1), (26, .ifCond .eq 7, 3), (29, .iconst 1, 1), (30, .goto 4, 3), (33, .iconst 0, 1), (34, .aload_n 3, 1), (35, .invokestatic 194, 3), (38, .istore 6, 2), (40, .aload_n 2, 1), (41, .aload_n 0, 1), (42, .iload 5, 2), (44, .iconst 1, 1), (45, .iadd, 1), (46, .iaload, 1), (47, .aload_n 0, 1), (48, .iload 5, 2), (50, .iconst 2, 1), (51, .iadd, 1), (52, .iaload, 1), (53, .ifCond .eq 7, 3), (56, .iconst 1, 1), (57, .goto 4, 3), (60, .iconst 0, 1), (61, .invokevirtual 197, 3)]
theorem gL_17 : tL_17.all (fun r => opB ck_17 r.1 && decide (decode ck_17 r.1 = .ok (r.2.1, r.2.2))) = true := by decide +kernel
theorem dL_law_1088 : decode cL_law 1088 = .ok (.aload_n 1, 1) := sl_row agL_17 gL_17 (i := 0) (r := (0, .aload_n 1, 1)) rfl
theorem dL_law_1089 : decode cL_law 1089 = .ok (.invokevirtual 190, 3) := sl_row agL_17 gL_17 (i := 1) (r := (1, .invokevirtual 190, 3)) rfl
theorem dL_law_1092 : decode cL_law 1092 = .ok (.aload_n 2, 1) := sl_row agL_17 gL_17 (i := 2) (r := (4, .aload_n 2, 1)) rfl
theorem dL_law_1093 : decode cL_law 1093 = .ok (.invokevirtual 193, 3) := sl_row agL_17 gL_17 (i := 3) (r := (5, .invokevirtual 193, 3)) rfl
theorem dL_law_1096 : decode cL_law 1096 = .ok (.if_icmp .eq 1861, 3) := sl_row agL_17 gL_17 (i := 4) (r := (8, .if_icmp .eq 1861, 3)) rfl
theorem dL_law_1099 : decode cL_law 1099 = .ok (.iconst 0, 1) := sl_row agL_17 gL_17 (i := 5) (r := (11, .iconst 0, 1)) rfl
theorem dL_law_1100 : decode cL_law 1100 = .ok (.ireturn, 1) := sl_row agL_17 gL_17 (i := 6) (r := (12, .ireturn, 1)) rfl
theorem dL_law_1101 : decode cL_law 1101 = .ok (.aload_n 1, 1) := sl_row agL_17 gL_17 (i := 7) (r := (13, .aload_n 1, 1)) rfl
theorem dL_law_1102 : decode cL_law 1102 = .ok (.aload_n 0, 1) := sl_row agL_17 gL_17 (i := 8) (r := (14, .aload_n 0, 1)) rfl
theorem dL_law_1103 : decode cL_law 1103 = .ok (.iload 5, 2) := sl_row agL_17 gL_17 (i := 9) (r := (15, .iload 5, 2)) rfl
theorem dL_law_1105 : decode cL_law 1105 = .ok (.iconst 1, 1) := sl_row agL_17 gL_17 (i := 10) (r := (17, .iconst 1, 1)) rfl
theorem dL_law_1106 : decode cL_law 1106 = .ok (.iadd, 1) := sl_row agL_17 gL_17 (i := 11) (r := (18, .iadd, 1)) rfl
theorem dL_law_1107 : decode cL_law 1107 = .ok (.iaload, 1) := sl_row agL_17 gL_17 (i := 12) (r := (19, .iaload, 1)) rfl
theorem dL_law_1108 : decode cL_law 1108 = .ok (.aload_n 0, 1) := sl_row agL_17 gL_17 (i := 13) (r := (20, .aload_n 0, 1)) rfl
theorem dL_law_1109 : decode cL_law 1109 = .ok (.iload 5, 2) := sl_row agL_17 gL_17 (i := 14) (r := (21, .iload 5, 2)) rfl
theorem dL_law_1111 : decode cL_law 1111 = .ok (.iconst 2, 1) := sl_row agL_17 gL_17 (i := 15) (r := (23, .iconst 2, 1)) rfl
theorem dL_law_1112 : decode cL_law 1112 = .ok (.iadd, 1) := sl_row agL_17 gL_17 (i := 16) (r := (24, .iadd, 1)) rfl
theorem dL_law_1113 : decode cL_law 1113 = .ok (.iaload, 1) := sl_row agL_17 gL_17 (i := 17) (r := (25, .iaload, 1)) rfl
theorem dL_law_1114 : decode cL_law 1114 = .ok (.ifCond .eq 7, 3) := sl_row agL_17 gL_17 (i := 18) (r := (26, .ifCond .eq 7, 3)) rfl
theorem dL_law_1117 : decode cL_law 1117 = .ok (.iconst 1, 1) := sl_row agL_17 gL_17 (i := 19) (r := (29, .iconst 1, 1)) rfl
theorem dL_law_1118 : decode cL_law 1118 = .ok (.goto 4, 3) := sl_row agL_17 gL_17 (i := 20) (r := (30, .goto 4, 3)) rfl
theorem dL_law_1121 : decode cL_law 1121 = .ok (.iconst 0, 1) := sl_row agL_17 gL_17 (i := 21) (r := (33, .iconst 0, 1)) rfl
theorem dL_law_1122 : decode cL_law 1122 = .ok (.aload_n 3, 1) := sl_row agL_17 gL_17 (i := 22) (r := (34, .aload_n 3, 1)) rfl
theorem dL_law_1123 : decode cL_law 1123 = .ok (.invokestatic 194, 3) := sl_row agL_17 gL_17 (i := 23) (r := (35, .invokestatic 194, 3)) rfl
theorem dL_law_1126 : decode cL_law 1126 = .ok (.istore 6, 2) := sl_row agL_17 gL_17 (i := 24) (r := (38, .istore 6, 2)) rfl
theorem dL_law_1128 : decode cL_law 1128 = .ok (.aload_n 2, 1) := sl_row agL_17 gL_17 (i := 25) (r := (40, .aload_n 2, 1)) rfl
theorem dL_law_1129 : decode cL_law 1129 = .ok (.aload_n 0, 1) := sl_row agL_17 gL_17 (i := 26) (r := (41, .aload_n 0, 1)) rfl
theorem dL_law_1130 : decode cL_law 1130 = .ok (.iload 5, 2) := sl_row agL_17 gL_17 (i := 27) (r := (42, .iload 5, 2)) rfl
theorem dL_law_1132 : decode cL_law 1132 = .ok (.iconst 1, 1) := sl_row agL_17 gL_17 (i := 28) (r := (44, .iconst 1, 1)) rfl
theorem dL_law_1133 : decode cL_law 1133 = .ok (.iadd, 1) := sl_row agL_17 gL_17 (i := 29) (r := (45, .iadd, 1)) rfl
theorem dL_law_1134 : decode cL_law 1134 = .ok (.iaload, 1) := sl_row agL_17 gL_17 (i := 30) (r := (46, .iaload, 1)) rfl
theorem dL_law_1135 : decode cL_law 1135 = .ok (.aload_n 0, 1) := sl_row agL_17 gL_17 (i := 31) (r := (47, .aload_n 0, 1)) rfl
theorem dL_law_1136 : decode cL_law 1136 = .ok (.iload 5, 2) := sl_row agL_17 gL_17 (i := 32) (r := (48, .iload 5, 2)) rfl
theorem dL_law_1138 : decode cL_law 1138 = .ok (.iconst 2, 1) := sl_row agL_17 gL_17 (i := 33) (r := (50, .iconst 2, 1)) rfl
theorem dL_law_1139 : decode cL_law 1139 = .ok (.iadd, 1) := sl_row agL_17 gL_17 (i := 34) (r := (51, .iadd, 1)) rfl
theorem dL_law_1140 : decode cL_law 1140 = .ok (.iaload, 1) := sl_row agL_17 gL_17 (i := 35) (r := (52, .iaload, 1)) rfl
theorem dL_law_1141 : decode cL_law 1141 = .ok (.ifCond .eq 7, 3) := sl_row agL_17 gL_17 (i := 36) (r := (53, .ifCond .eq 7, 3)) rfl
theorem dL_law_1144 : decode cL_law 1144 = .ok (.iconst 1, 1) := sl_row agL_17 gL_17 (i := 37) (r := (56, .iconst 1, 1)) rfl
theorem dL_law_1145 : decode cL_law 1145 = .ok (.goto 4, 3) := sl_row agL_17 gL_17 (i := 38) (r := (57, .goto 4, 3)) rfl
theorem dL_law_1148 : decode cL_law 1148 = .ok (.iconst 0, 1) := sl_row agL_17 gL_17 (i := 39) (r := (60, .iconst 0, 1)) rfl
theorem dL_law_1149 : decode cL_law 1149 = .ok (.invokevirtual 197, 3) := sl_row agL_17 gL_17 (i := 40) (r := (61, .invokevirtual 197, 3)) rfl
def ck_18 : ByteArray := .mk #[0x36, 0x07, 0x2c, 0xb6, 0x00, 0x95, 0x15, 0x06, 0x9f, 0x00, 0x05, 0x03, 0xac, 0x15, 0x06, 0x9a, 0x00, 0x0f, 0x2d, 0x03, 0x2f, 0x15, 0x07, 0x85, 0x94, 0x99, 0x00, 0x05, 0x03, 0xac, 0xa7, 0x06, 0xef, 0x2b, 0xb6, 0x00, 0xc6, 0x2c, 0xb6, 0x00, 0xc9, 0x9f, 0x06, 0xe4, 0x03, 0xac, 0x2b, 0xb6, 0x00, 0xca, 0x2c, 0xb6, 0x00, 0xcd, 0x9f, 0x06, 0xd7, 0x03, 0xac, 0x2b, 0xb6, 0x00, 0xce, 0x2c, 0xb6, 0x00, 0xd1, 0x9f]
set_option maxRecDepth 20000 in
theorem agL_18 : ∀ q, agB cL_law ck_18 (1152 + q) q := agB_of 1152 (by decide +kernel)
def tL_18 : List (Nat × Instr × Nat) := [(0, .istore 7, 2), (2, .aload_n 2, 1), (3, .invokevirtual 149, 3), (6, .iload 6, 2), (8, .if_icmp .eq 5, 3), (11, .iconst 0, 1), (12, .ireturn, 1), (13, .iload 6, 2), (15, .ifCond .ne 15, 3), (18, .aload_n 3, 1), (19, .iconst 0, 1), (20, .laload, 1), (21, .iload 7, 2), (23, .i2l, 1), (24, .lcmp, 1), (25, .ifCond .eq 5, 3), (28, .iconst 0, 1), (29, .ireturn, 1), (30, .goto 1775, 3), (33, .aload_n 1, 1), (34, .invokevirtual 198, 3), (37, .aload_n 2, 1), (38, .invokevirtual 201, 3), (41, .if_icmp .eq 1764, 3), (44, .iconst 0, 1), (45, .ireturn, 1), (46, .aload_n 1, 1), (47, .invokevirtual 202, 3), (50, .aload_n 2, 1), (51, .invokevirtual 205, 3), (54, .if_icmp .eq 1751, 3), (57, .iconst 0, 1), (58, .ireturn, 1), (59, .aload_n 1, 1), (60, .invokevirtual 206, 3), (63, .aload_n 2, 1)]
theorem gL_18 : tL_18.all (fun r => opB ck_18 r.1 && decide (decode ck_18 r.1 = .ok (r.2.1, r.2.2))) = true := by decide +kernel
theorem dL_law_1152 : decode cL_law 1152 = .ok (.istore 7, 2) := sl_row agL_18 gL_18 (i := 0) (r := (0, .istore 7, 2)) rfl
theorem dL_law_1154 : decode cL_law 1154 = .ok (.aload_n 2, 1) := sl_row agL_18 gL_18 (i := 1) (r := (2, .aload_n 2, 1)) rfl
theorem dL_law_1155 : decode cL_law 1155 = .ok (.invokevirtual 149, 3) := sl_row agL_18 gL_18 (i := 2) (r := (3, .invokevirtual 149, 3)) rfl
theorem dL_law_1158 : decode cL_law 1158 = .ok (.iload 6, 2) := sl_row agL_18 gL_18 (i := 3) (r := (6, .iload 6, 2)) rfl
theorem dL_law_1160 : decode cL_law 1160 = .ok (.if_icmp .eq 5, 3) := sl_row agL_18 gL_18 (i := 4) (r := (8, .if_icmp .eq 5, 3)) rfl
theorem dL_law_1163 : decode cL_law 1163 = .ok (.iconst 0, 1) := sl_row agL_18 gL_18 (i := 5) (r := (11, .iconst 0, 1)) rfl
theorem dL_law_1164 : decode cL_law 1164 = .ok (.ireturn, 1) := sl_row agL_18 gL_18 (i := 6) (r := (12, .ireturn, 1)) rfl
theorem dL_law_1165 : decode cL_law 1165 = .ok (.iload 6, 2) := sl_row agL_18 gL_18 (i := 7) (r := (13, .iload 6, 2)) rfl
theorem dL_law_1167 : decode cL_law 1167 = .ok (.ifCond .ne 15, 3) := sl_row agL_18 gL_18 (i := 8) (r := (15, .ifCond .ne 15, 3)) rfl
theorem dL_law_1170 : decode cL_law 1170 = .ok (.aload_n 3, 1) := sl_row agL_18 gL_18 (i := 9) (r := (18, .aload_n 3, 1)) rfl
theorem dL_law_1171 : decode cL_law 1171 = .ok (.iconst 0, 1) := sl_row agL_18 gL_18 (i := 10) (r := (19, .iconst 0, 1)) rfl
theorem dL_law_1172 : decode cL_law 1172 = .ok (.laload, 1) := sl_row agL_18 gL_18 (i := 11) (r := (20, .laload, 1)) rfl
theorem dL_law_1173 : decode cL_law 1173 = .ok (.iload 7, 2) := sl_row agL_18 gL_18 (i := 12) (r := (21, .iload 7, 2)) rfl
theorem dL_law_1175 : decode cL_law 1175 = .ok (.i2l, 1) := sl_row agL_18 gL_18 (i := 13) (r := (23, .i2l, 1)) rfl
theorem dL_law_1176 : decode cL_law 1176 = .ok (.lcmp, 1) := sl_row agL_18 gL_18 (i := 14) (r := (24, .lcmp, 1)) rfl
theorem dL_law_1177 : decode cL_law 1177 = .ok (.ifCond .eq 5, 3) := sl_row agL_18 gL_18 (i := 15) (r := (25, .ifCond .eq 5, 3)) rfl
theorem dL_law_1180 : decode cL_law 1180 = .ok (.iconst 0, 1) := sl_row agL_18 gL_18 (i := 16) (r := (28, .iconst 0, 1)) rfl
theorem dL_law_1181 : decode cL_law 1181 = .ok (.ireturn, 1) := sl_row agL_18 gL_18 (i := 17) (r := (29, .ireturn, 1)) rfl
theorem dL_law_1182 : decode cL_law 1182 = .ok (.goto 1775, 3) := sl_row agL_18 gL_18 (i := 18) (r := (30, .goto 1775, 3)) rfl
theorem dL_law_1185 : decode cL_law 1185 = .ok (.aload_n 1, 1) := sl_row agL_18 gL_18 (i := 19) (r := (33, .aload_n 1, 1)) rfl
theorem dL_law_1186 : decode cL_law 1186 = .ok (.invokevirtual 198, 3) := sl_row agL_18 gL_18 (i := 20) (r := (34, .invokevirtual 198, 3)) rfl
theorem dL_law_1189 : decode cL_law 1189 = .ok (.aload_n 2, 1) := sl_row agL_18 gL_18 (i := 21) (r := (37, .aload_n 2, 1)) rfl
theorem dL_law_1190 : decode cL_law 1190 = .ok (.invokevirtual 201, 3) := sl_row agL_18 gL_18 (i := 22) (r := (38, .invokevirtual 201, 3)) rfl
theorem dL_law_1193 : decode cL_law 1193 = .ok (.if_icmp .eq 1764, 3) := sl_row agL_18 gL_18 (i := 23) (r := (41, .if_icmp .eq 1764, 3)) rfl
theorem dL_law_1196 : decode cL_law 1196 = .ok (.iconst 0, 1) := sl_row agL_18 gL_18 (i := 24) (r := (44, .iconst 0, 1)) rfl
theorem dL_law_1197 : decode cL_law 1197 = .ok (.ireturn, 1) := sl_row agL_18 gL_18 (i := 25) (r := (45, .ireturn, 1)) rfl
theorem dL_law_1198 : decode cL_law 1198 = .ok (.aload_n 1, 1) := sl_row agL_18 gL_18 (i := 26) (r := (46, .aload_n 1, 1)) rfl
theorem dL_law_1199 : decode cL_law 1199 = .ok (.invokevirtual 202, 3) := sl_row agL_18 gL_18 (i := 27) (r := (47, .invokevirtual 202, 3)) rfl
theorem dL_law_1202 : decode cL_law 1202 = .ok (.aload_n 2, 1) := sl_row agL_18 gL_18 (i := 28) (r := (50, .aload_n 2, 1)) rfl
theorem dL_law_1203 : decode cL_law 1203 = .ok (.invokevirtual 205, 3) := sl_row agL_18 gL_18 (i := 29) (r := (51, .invokevirtual 205, 3)) rfl
theorem dL_law_1206 : decode cL_law 1206 = .ok (.if_icmp .eq 1751, 3) := sl_row agL_18 gL_18 (i := 30) (r := (54, .if_icmp .eq 1751, 3)) rfl
theorem dL_law_1209 : decode cL_law 1209 = .ok (.iconst 0, 1) := sl_row agL_18 gL_18 (i := 31) (r := (57, .iconst 0, 1)) rfl
theorem dL_law_1210 : decode cL_law 1210 = .ok (.ireturn, 1) := sl_row agL_18 gL_18 (i := 32) (r := (58, .ireturn, 1)) rfl
theorem dL_law_1211 : decode cL_law 1211 = .ok (.aload_n 1, 1) := sl_row agL_18 gL_18 (i := 33) (r := (59, .aload_n 1, 1)) rfl
theorem dL_law_1212 : decode cL_law 1212 = .ok (.invokevirtual 206, 3) := sl_row agL_18 gL_18 (i := 34) (r := (60, .invokevirtual 206, 3)) rfl
theorem dL_law_1215 : decode cL_law 1215 = .ok (.aload_n 2, 1) := sl_row agL_18 gL_18 (i := 35) (r := (63, .aload_n 2, 1)) rfl
def ck_19 : ByteArray := .mk #[0xb6, 0x00, 0xd1, 0x9f, 0x06, 0xca, 0x03, 0xac, 0x2b, 0x2a, 0x15, 0x05, 0x04, 0x60, 0x2e, 0x2a, 0x15, 0x05, 0x05, 0x60, 0x2e, 0xb6, 0x00, 0xd2, 0x2c, 0x2a, 0x15, 0x05, 0x04, 0x60, 0x2e, 0x2a, 0x15, 0x05, 0x05, 0x60, 0x2e, 0xb6, 0x00, 0xd5, 0x9f, 0x06, 0xa5, 0x03, 0xac, 0x2b, 0x2a, 0x15, 0x05, 0x04, 0x60, 0x2e, 0x99, 0x00, 0x07, 0x04, 0xa7, 0x00, 0x04, 0x03, 0x2d, 0xb8, 0x00, 0xd6, 0x36, 0x06, 0x2c, 0x2a]
set_option maxRecDepth 20000 in
theorem agL_19 : ∀ q, agB cL_law ck_19 (1216 + q) q := agB_of 1216 (by decide +kernel)
def tL_19 : List (Nat × Instr × Nat) := [(0, .invokevirtual 209, 3), (3, .if_icmp .eq 1738, 3), (6, .iconst 0, 1), (7, .ireturn, 1), (8, .aload_n 1, 1), (9, .aload_n 0, 1), (10, .iload 5, 2), (12, .iconst 1, 1), (13, .iadd, 1), (14, .iaload, 1), (15, .aload_n 0, 1), (16, .iload 5, 2), (18, .iconst 2, 1), (19, .iadd, 1), (20, .iaload, 1), (21, .invokevirtual 210, 3), (24, .aload_n 2, 1), (25, .aload_n 0, 1), (26, .iload 5, 2), (28, .iconst 1, 1), (29, .iadd, 1), (30, .iaload, 1), (31, .aload_n 0, 1), (32, .iload 5, 2), (34, .iconst 2, 1), (35, .iadd, 1), (36, .iaload, 1), (37, .invokevirtual 213, 3), (40, .if_icmp .eq 1701, 3), (43, .iconst 0, 1), (44, .ireturn, 1), (45, .aload_n 1, 1), (46, .aload_n 0, 1), (47, .iload 5, 2), (49, .iconst 1, 1), (50, .iadd, 1), (51, .iaload, 1), (52, .ifCond .eq 7, 3), (55, .iconst 1, 1), (56, .goto 4, 3), (59, .iconst 0, 1), (60, .aload_n 3, 1), (61, .invokestatic 214, 3)]
theorem gL_19 : tL_19.all (fun r => opB ck_19 r.1 && decide (decode ck_19 r.1 = .ok (r.2.1, r.2.2))) = true := by decide +kernel
theorem dL_law_1216 : decode cL_law 1216 = .ok (.invokevirtual 209, 3) := sl_row agL_19 gL_19 (i := 0) (r := (0, .invokevirtual 209, 3)) rfl
theorem dL_law_1219 : decode cL_law 1219 = .ok (.if_icmp .eq 1738, 3) := sl_row agL_19 gL_19 (i := 1) (r := (3, .if_icmp .eq 1738, 3)) rfl
theorem dL_law_1222 : decode cL_law 1222 = .ok (.iconst 0, 1) := sl_row agL_19 gL_19 (i := 2) (r := (6, .iconst 0, 1)) rfl
theorem dL_law_1223 : decode cL_law 1223 = .ok (.ireturn, 1) := sl_row agL_19 gL_19 (i := 3) (r := (7, .ireturn, 1)) rfl
theorem dL_law_1224 : decode cL_law 1224 = .ok (.aload_n 1, 1) := sl_row agL_19 gL_19 (i := 4) (r := (8, .aload_n 1, 1)) rfl
theorem dL_law_1225 : decode cL_law 1225 = .ok (.aload_n 0, 1) := sl_row agL_19 gL_19 (i := 5) (r := (9, .aload_n 0, 1)) rfl
theorem dL_law_1226 : decode cL_law 1226 = .ok (.iload 5, 2) := sl_row agL_19 gL_19 (i := 6) (r := (10, .iload 5, 2)) rfl
theorem dL_law_1228 : decode cL_law 1228 = .ok (.iconst 1, 1) := sl_row agL_19 gL_19 (i := 7) (r := (12, .iconst 1, 1)) rfl
theorem dL_law_1229 : decode cL_law 1229 = .ok (.iadd, 1) := sl_row agL_19 gL_19 (i := 8) (r := (13, .iadd, 1)) rfl
theorem dL_law_1230 : decode cL_law 1230 = .ok (.iaload, 1) := sl_row agL_19 gL_19 (i := 9) (r := (14, .iaload, 1)) rfl
theorem dL_law_1231 : decode cL_law 1231 = .ok (.aload_n 0, 1) := sl_row agL_19 gL_19 (i := 10) (r := (15, .aload_n 0, 1)) rfl
theorem dL_law_1232 : decode cL_law 1232 = .ok (.iload 5, 2) := sl_row agL_19 gL_19 (i := 11) (r := (16, .iload 5, 2)) rfl
theorem dL_law_1234 : decode cL_law 1234 = .ok (.iconst 2, 1) := sl_row agL_19 gL_19 (i := 12) (r := (18, .iconst 2, 1)) rfl
theorem dL_law_1235 : decode cL_law 1235 = .ok (.iadd, 1) := sl_row agL_19 gL_19 (i := 13) (r := (19, .iadd, 1)) rfl
theorem dL_law_1236 : decode cL_law 1236 = .ok (.iaload, 1) := sl_row agL_19 gL_19 (i := 14) (r := (20, .iaload, 1)) rfl
theorem dL_law_1237 : decode cL_law 1237 = .ok (.invokevirtual 210, 3) := sl_row agL_19 gL_19 (i := 15) (r := (21, .invokevirtual 210, 3)) rfl
theorem dL_law_1240 : decode cL_law 1240 = .ok (.aload_n 2, 1) := sl_row agL_19 gL_19 (i := 16) (r := (24, .aload_n 2, 1)) rfl
theorem dL_law_1241 : decode cL_law 1241 = .ok (.aload_n 0, 1) := sl_row agL_19 gL_19 (i := 17) (r := (25, .aload_n 0, 1)) rfl
theorem dL_law_1242 : decode cL_law 1242 = .ok (.iload 5, 2) := sl_row agL_19 gL_19 (i := 18) (r := (26, .iload 5, 2)) rfl
theorem dL_law_1244 : decode cL_law 1244 = .ok (.iconst 1, 1) := sl_row agL_19 gL_19 (i := 19) (r := (28, .iconst 1, 1)) rfl
theorem dL_law_1245 : decode cL_law 1245 = .ok (.iadd, 1) := sl_row agL_19 gL_19 (i := 20) (r := (29, .iadd, 1)) rfl
theorem dL_law_1246 : decode cL_law 1246 = .ok (.iaload, 1) := sl_row agL_19 gL_19 (i := 21) (r := (30, .iaload, 1)) rfl
theorem dL_law_1247 : decode cL_law 1247 = .ok (.aload_n 0, 1) := sl_row agL_19 gL_19 (i := 22) (r := (31, .aload_n 0, 1)) rfl
theorem dL_law_1248 : decode cL_law 1248 = .ok (.iload 5, 2) := sl_row agL_19 gL_19 (i := 23) (r := (32, .iload 5, 2)) rfl
theorem dL_law_1250 : decode cL_law 1250 = .ok (.iconst 2, 1) := sl_row agL_19 gL_19 (i := 24) (r := (34, .iconst 2, 1)) rfl
theorem dL_law_1251 : decode cL_law 1251 = .ok (.iadd, 1) := sl_row agL_19 gL_19 (i := 25) (r := (35, .iadd, 1)) rfl
theorem dL_law_1252 : decode cL_law 1252 = .ok (.iaload, 1) := sl_row agL_19 gL_19 (i := 26) (r := (36, .iaload, 1)) rfl
theorem dL_law_1253 : decode cL_law 1253 = .ok (.invokevirtual 213, 3) := sl_row agL_19 gL_19 (i := 27) (r := (37, .invokevirtual 213, 3)) rfl
theorem dL_law_1256 : decode cL_law 1256 = .ok (.if_icmp .eq 1701, 3) := sl_row agL_19 gL_19 (i := 28) (r := (40, .if_icmp .eq 1701, 3)) rfl
theorem dL_law_1259 : decode cL_law 1259 = .ok (.iconst 0, 1) := sl_row agL_19 gL_19 (i := 29) (r := (43, .iconst 0, 1)) rfl
theorem dL_law_1260 : decode cL_law 1260 = .ok (.ireturn, 1) := sl_row agL_19 gL_19 (i := 30) (r := (44, .ireturn, 1)) rfl
theorem dL_law_1261 : decode cL_law 1261 = .ok (.aload_n 1, 1) := sl_row agL_19 gL_19 (i := 31) (r := (45, .aload_n 1, 1)) rfl
theorem dL_law_1262 : decode cL_law 1262 = .ok (.aload_n 0, 1) := sl_row agL_19 gL_19 (i := 32) (r := (46, .aload_n 0, 1)) rfl
theorem dL_law_1263 : decode cL_law 1263 = .ok (.iload 5, 2) := sl_row agL_19 gL_19 (i := 33) (r := (47, .iload 5, 2)) rfl
theorem dL_law_1265 : decode cL_law 1265 = .ok (.iconst 1, 1) := sl_row agL_19 gL_19 (i := 34) (r := (49, .iconst 1, 1)) rfl
theorem dL_law_1266 : decode cL_law 1266 = .ok (.iadd, 1) := sl_row agL_19 gL_19 (i := 35) (r := (50, .iadd, 1)) rfl
theorem dL_law_1267 : decode cL_law 1267 = .ok (.iaload, 1) := sl_row agL_19 gL_19 (i := 36) (r := (51, .iaload, 1)) rfl
theorem dL_law_1268 : decode cL_law 1268 = .ok (.ifCond .eq 7, 3) := sl_row agL_19 gL_19 (i := 37) (r := (52, .ifCond .eq 7, 3)) rfl
theorem dL_law_1271 : decode cL_law 1271 = .ok (.iconst 1, 1) := sl_row agL_19 gL_19 (i := 38) (r := (55, .iconst 1, 1)) rfl
theorem dL_law_1272 : decode cL_law 1272 = .ok (.goto 4, 3) := sl_row agL_19 gL_19 (i := 39) (r := (56, .goto 4, 3)) rfl
theorem dL_law_1275 : decode cL_law 1275 = .ok (.iconst 0, 1) := sl_row agL_19 gL_19 (i := 40) (r := (59, .iconst 0, 1)) rfl
theorem dL_law_1276 : decode cL_law 1276 = .ok (.aload_n 3, 1) := sl_row agL_19 gL_19 (i := 41) (r := (60, .aload_n 3, 1)) rfl
theorem dL_law_1277 : decode cL_law 1277 = .ok (.invokestatic 214, 3) := sl_row agL_19 gL_19 (i := 42) (r := (61, .invokestatic 214, 3)) rfl
def ck_20 : ByteArray := .mk #[0x36, 0x06, 0x2c, 0x2a, 0x15, 0x05, 0x04, 0x60, 0x2e, 0x99, 0x00, 0x07, 0x04, 0xa7, 0x00, 0x04, 0x03, 0xb6, 0x00, 0xd9, 0x37, 0x07, 0x2c, 0xb6, 0x00, 0x95, 0x15, 0x06, 0x9f, 0x00, 0x05, 0x03, 0xac, 0x15, 0x06, 0x9a, 0x00, 0x0e, 0x2d, 0x03, 0x2f, 0x16, 0x07, 0x94, 0x99, 0x00, 0x05, 0x03, 0xac, 0xa7, 0x06, 0x5c, 0x2b, 0x2a, 0x15, 0x05, 0x04, 0x60, 0x2e, 0x2a, 0x15, 0x05, 0x05, 0x60, 0x2e, 0x2a, 0x15, 0x05]
set_option maxRecDepth 20000 in
theorem agL_20 : ∀ q, agB cL_law ck_20 (1280 + q) q := agB_of 1280 (by decide +kernel)
def tL_20 : List (Nat × Instr × Nat) := [(0, .istore 6, 2), (2, .aload_n 2, 1), (3, .aload_n 0, 1), (4, .iload 5, 2), (6, .iconst 1, 1), (7, .iadd, 1), (8, .iaload, 1), (9, .ifCond .eq 7, 3), (12, .iconst 1, 1), (13, .goto 4, 3), (16, .iconst 0, 1), (17, .invokevirtual 217, 3), (20, .lstore 7, 2), (22, .aload_n 2, 1), (23, .invokevirtual 149, 3), (26, .iload 6, 2), (28, .if_icmp .eq 5, 3), (31, .iconst 0, 1), (32, .ireturn, 1), (33, .iload 6, 2), (35, .ifCond .ne 14, 3), (38, .aload_n 3, 1), (39, .iconst 0, 1), (40, .laload, 1), (41, .lload 7, 2), (43, .lcmp, 1), (44, .ifCond .eq 5, 3), (47, .iconst 0, 1), (48, .ireturn, 1), (49, .goto 1628, 3), (52, .aload_n 1, 1), (53, .aload_n 0, 1), (54, .iload 5, 2), (56, .iconst 1, 1), (57, .iadd, 1), (58, .iaload, 1), (59, .aload_n 0, 1), (60, .iload 5, 2), (62, .iconst 2, 1), (63, .iadd, 1)]
theorem gL_20 : tL_20.all (fun r => opB ck_20 r.1 && decide (decode ck_20 r.1 = .ok (r.2.1, r.2.2))) = true := by decide +kernel
theorem dL_law_1280 : decode cL_law 1280 = .ok (.istore 6, 2) := sl_row agL_20 gL_20 (i := 0) (r := (0, .istore 6, 2)) rfl
theorem dL_law_1282 : decode cL_law 1282 = .ok (.aload_n 2, 1) := sl_row agL_20 gL_20 (i := 1) (r := (2, .aload_n 2, 1)) rfl
theorem dL_law_1283 : decode cL_law 1283 = .ok (.aload_n 0, 1) := sl_row agL_20 gL_20 (i := 2) (r := (3, .aload_n 0, 1)) rfl
theorem dL_law_1284 : decode cL_law 1284 = .ok (.iload 5, 2) := sl_row agL_20 gL_20 (i := 3) (r := (4, .iload 5, 2)) rfl
theorem dL_law_1286 : decode cL_law 1286 = .ok (.iconst 1, 1) := sl_row agL_20 gL_20 (i := 4) (r := (6, .iconst 1, 1)) rfl
theorem dL_law_1287 : decode cL_law 1287 = .ok (.iadd, 1) := sl_row agL_20 gL_20 (i := 5) (r := (7, .iadd, 1)) rfl
theorem dL_law_1288 : decode cL_law 1288 = .ok (.iaload, 1) := sl_row agL_20 gL_20 (i := 6) (r := (8, .iaload, 1)) rfl
theorem dL_law_1289 : decode cL_law 1289 = .ok (.ifCond .eq 7, 3) := sl_row agL_20 gL_20 (i := 7) (r := (9, .ifCond .eq 7, 3)) rfl
theorem dL_law_1292 : decode cL_law 1292 = .ok (.iconst 1, 1) := sl_row agL_20 gL_20 (i := 8) (r := (12, .iconst 1, 1)) rfl
theorem dL_law_1293 : decode cL_law 1293 = .ok (.goto 4, 3) := sl_row agL_20 gL_20 (i := 9) (r := (13, .goto 4, 3)) rfl
theorem dL_law_1296 : decode cL_law 1296 = .ok (.iconst 0, 1) := sl_row agL_20 gL_20 (i := 10) (r := (16, .iconst 0, 1)) rfl
theorem dL_law_1297 : decode cL_law 1297 = .ok (.invokevirtual 217, 3) := sl_row agL_20 gL_20 (i := 11) (r := (17, .invokevirtual 217, 3)) rfl
theorem dL_law_1300 : decode cL_law 1300 = .ok (.lstore 7, 2) := sl_row agL_20 gL_20 (i := 12) (r := (20, .lstore 7, 2)) rfl
theorem dL_law_1302 : decode cL_law 1302 = .ok (.aload_n 2, 1) := sl_row agL_20 gL_20 (i := 13) (r := (22, .aload_n 2, 1)) rfl
theorem dL_law_1303 : decode cL_law 1303 = .ok (.invokevirtual 149, 3) := sl_row agL_20 gL_20 (i := 14) (r := (23, .invokevirtual 149, 3)) rfl
theorem dL_law_1306 : decode cL_law 1306 = .ok (.iload 6, 2) := sl_row agL_20 gL_20 (i := 15) (r := (26, .iload 6, 2)) rfl
theorem dL_law_1308 : decode cL_law 1308 = .ok (.if_icmp .eq 5, 3) := sl_row agL_20 gL_20 (i := 16) (r := (28, .if_icmp .eq 5, 3)) rfl
theorem dL_law_1311 : decode cL_law 1311 = .ok (.iconst 0, 1) := sl_row agL_20 gL_20 (i := 17) (r := (31, .iconst 0, 1)) rfl
theorem dL_law_1312 : decode cL_law 1312 = .ok (.ireturn, 1) := sl_row agL_20 gL_20 (i := 18) (r := (32, .ireturn, 1)) rfl
theorem dL_law_1313 : decode cL_law 1313 = .ok (.iload 6, 2) := sl_row agL_20 gL_20 (i := 19) (r := (33, .iload 6, 2)) rfl
theorem dL_law_1315 : decode cL_law 1315 = .ok (.ifCond .ne 14, 3) := sl_row agL_20 gL_20 (i := 20) (r := (35, .ifCond .ne 14, 3)) rfl
theorem dL_law_1318 : decode cL_law 1318 = .ok (.aload_n 3, 1) := sl_row agL_20 gL_20 (i := 21) (r := (38, .aload_n 3, 1)) rfl
theorem dL_law_1319 : decode cL_law 1319 = .ok (.iconst 0, 1) := sl_row agL_20 gL_20 (i := 22) (r := (39, .iconst 0, 1)) rfl
theorem dL_law_1320 : decode cL_law 1320 = .ok (.laload, 1) := sl_row agL_20 gL_20 (i := 23) (r := (40, .laload, 1)) rfl
theorem dL_law_1321 : decode cL_law 1321 = .ok (.lload 7, 2) := sl_row agL_20 gL_20 (i := 24) (r := (41, .lload 7, 2)) rfl
theorem dL_law_1323 : decode cL_law 1323 = .ok (.lcmp, 1) := sl_row agL_20 gL_20 (i := 25) (r := (43, .lcmp, 1)) rfl
theorem dL_law_1324 : decode cL_law 1324 = .ok (.ifCond .eq 5, 3) := sl_row agL_20 gL_20 (i := 26) (r := (44, .ifCond .eq 5, 3)) rfl
theorem dL_law_1327 : decode cL_law 1327 = .ok (.iconst 0, 1) := sl_row agL_20 gL_20 (i := 27) (r := (47, .iconst 0, 1)) rfl
theorem dL_law_1328 : decode cL_law 1328 = .ok (.ireturn, 1) := sl_row agL_20 gL_20 (i := 28) (r := (48, .ireturn, 1)) rfl
theorem dL_law_1329 : decode cL_law 1329 = .ok (.goto 1628, 3) := sl_row agL_20 gL_20 (i := 29) (r := (49, .goto 1628, 3)) rfl
theorem dL_law_1332 : decode cL_law 1332 = .ok (.aload_n 1, 1) := sl_row agL_20 gL_20 (i := 30) (r := (52, .aload_n 1, 1)) rfl
theorem dL_law_1333 : decode cL_law 1333 = .ok (.aload_n 0, 1) := sl_row agL_20 gL_20 (i := 31) (r := (53, .aload_n 0, 1)) rfl
theorem dL_law_1334 : decode cL_law 1334 = .ok (.iload 5, 2) := sl_row agL_20 gL_20 (i := 32) (r := (54, .iload 5, 2)) rfl
theorem dL_law_1336 : decode cL_law 1336 = .ok (.iconst 1, 1) := sl_row agL_20 gL_20 (i := 33) (r := (56, .iconst 1, 1)) rfl
theorem dL_law_1337 : decode cL_law 1337 = .ok (.iadd, 1) := sl_row agL_20 gL_20 (i := 34) (r := (57, .iadd, 1)) rfl
theorem dL_law_1338 : decode cL_law 1338 = .ok (.iaload, 1) := sl_row agL_20 gL_20 (i := 35) (r := (58, .iaload, 1)) rfl
theorem dL_law_1339 : decode cL_law 1339 = .ok (.aload_n 0, 1) := sl_row agL_20 gL_20 (i := 36) (r := (59, .aload_n 0, 1)) rfl
theorem dL_law_1340 : decode cL_law 1340 = .ok (.iload 5, 2) := sl_row agL_20 gL_20 (i := 37) (r := (60, .iload 5, 2)) rfl
theorem dL_law_1342 : decode cL_law 1342 = .ok (.iconst 2, 1) := sl_row agL_20 gL_20 (i := 38) (r := (62, .iconst 2, 1)) rfl
theorem dL_law_1343 : decode cL_law 1343 = .ok (.iadd, 1) := sl_row agL_20 gL_20 (i := 39) (r := (63, .iadd, 1)) rfl
def ck_21 : ByteArray := .mk #[0x2e, 0x2a, 0x15, 0x05, 0x06, 0x60, 0x2e, 0x2d, 0xb8, 0x00, 0xda, 0x36, 0x06, 0x2c, 0x2a, 0x15, 0x05, 0x04, 0x60, 0x2e, 0x2a, 0x15, 0x05, 0x05, 0x60, 0x2e, 0x2a, 0x15, 0x05, 0x06, 0x60, 0x2e, 0xb6, 0x00, 0xdc, 0x36, 0x07, 0x2c, 0xb6, 0x00, 0x95, 0x15, 0x06, 0x9f, 0x00, 0x05, 0x03, 0xac, 0x15, 0x06, 0x9a, 0x00, 0x0f, 0x2d, 0x03, 0x2f, 0x15, 0x07, 0x85, 0x94, 0x99, 0x00, 0x05, 0x03, 0xac, 0xa7, 0x06, 0x0c]
set_option maxRecDepth 20000 in
theorem agL_21 : ∀ q, agB cL_law ck_21 (1344 + q) q := agB_of 1344 (by decide +kernel)
def tL_21 : List (Nat × Instr × Nat) := [(0, .iaload, 1), (1, .aload_n 0, 1), (2, .iload 5, 2), (4, .iconst 3, 1), (5, .iadd, 1), (6, .iaload, 1), (7, .aload_n 3, 1), (8, .invokestatic 218, 3), (11, .istore 6, 2), (13, .aload_n 2, 1), (14, .aload_n 0, 1), (15, .iload 5, 2), (17, .iconst 1, 1), (18, .iadd, 1), (19, .iaload, 1), (20, .aload_n 0, 1), (21, .iload 5, 2), (23, .iconst 2, 1), (24, .iadd, 1), (25, .iaload, 1), (26, .aload_n 0, 1), (27, .iload 5, 2), (29, .iconst 3, 1), (30, .iadd, 1), (31, .iaload, 1), (32, .invokevirtual 220, 3), (35, .istore 7, 2), (37, .aload_n 2, 1), (38, .invokevirtual 149, 3), (41, .iload 6, 2), (43, .if_icmp .eq 5, 3), (46, .iconst 0, 1), (47, .ireturn, 1), (48, .iload 6, 2), (50, .ifCond .ne 15, 3), (53, .aload_n 3, 1), (54, .iconst 0, 1), (55, .laload, 1), (56, .iload 7, 2), (58, .i2l, 1), (59, .lcmp, 1), (60, .ifCond .eq 5, 3), (63, .iconst 0, 1)]
theorem gL_21 : tL_21.all (fun r => opB ck_21 r.1 && decide (decode ck_21 r.1 = .ok (r.2.1, r.2.2))) = true := by decide +kernel
theorem dL_law_1344 : decode cL_law 1344 = .ok (.iaload, 1) := sl_row agL_21 gL_21 (i := 0) (r := (0, .iaload, 1)) rfl
theorem dL_law_1345 : decode cL_law 1345 = .ok (.aload_n 0, 1) := sl_row agL_21 gL_21 (i := 1) (r := (1, .aload_n 0, 1)) rfl
theorem dL_law_1346 : decode cL_law 1346 = .ok (.iload 5, 2) := sl_row agL_21 gL_21 (i := 2) (r := (2, .iload 5, 2)) rfl
theorem dL_law_1348 : decode cL_law 1348 = .ok (.iconst 3, 1) := sl_row agL_21 gL_21 (i := 3) (r := (4, .iconst 3, 1)) rfl
theorem dL_law_1349 : decode cL_law 1349 = .ok (.iadd, 1) := sl_row agL_21 gL_21 (i := 4) (r := (5, .iadd, 1)) rfl
theorem dL_law_1350 : decode cL_law 1350 = .ok (.iaload, 1) := sl_row agL_21 gL_21 (i := 5) (r := (6, .iaload, 1)) rfl
theorem dL_law_1351 : decode cL_law 1351 = .ok (.aload_n 3, 1) := sl_row agL_21 gL_21 (i := 6) (r := (7, .aload_n 3, 1)) rfl
theorem dL_law_1352 : decode cL_law 1352 = .ok (.invokestatic 218, 3) := sl_row agL_21 gL_21 (i := 7) (r := (8, .invokestatic 218, 3)) rfl
theorem dL_law_1355 : decode cL_law 1355 = .ok (.istore 6, 2) := sl_row agL_21 gL_21 (i := 8) (r := (11, .istore 6, 2)) rfl
theorem dL_law_1357 : decode cL_law 1357 = .ok (.aload_n 2, 1) := sl_row agL_21 gL_21 (i := 9) (r := (13, .aload_n 2, 1)) rfl
theorem dL_law_1358 : decode cL_law 1358 = .ok (.aload_n 0, 1) := sl_row agL_21 gL_21 (i := 10) (r := (14, .aload_n 0, 1)) rfl
theorem dL_law_1359 : decode cL_law 1359 = .ok (.iload 5, 2) := sl_row agL_21 gL_21 (i := 11) (r := (15, .iload 5, 2)) rfl
theorem dL_law_1361 : decode cL_law 1361 = .ok (.iconst 1, 1) := sl_row agL_21 gL_21 (i := 12) (r := (17, .iconst 1, 1)) rfl
theorem dL_law_1362 : decode cL_law 1362 = .ok (.iadd, 1) := sl_row agL_21 gL_21 (i := 13) (r := (18, .iadd, 1)) rfl
theorem dL_law_1363 : decode cL_law 1363 = .ok (.iaload, 1) := sl_row agL_21 gL_21 (i := 14) (r := (19, .iaload, 1)) rfl
theorem dL_law_1364 : decode cL_law 1364 = .ok (.aload_n 0, 1) := sl_row agL_21 gL_21 (i := 15) (r := (20, .aload_n 0, 1)) rfl
theorem dL_law_1365 : decode cL_law 1365 = .ok (.iload 5, 2) := sl_row agL_21 gL_21 (i := 16) (r := (21, .iload 5, 2)) rfl
theorem dL_law_1367 : decode cL_law 1367 = .ok (.iconst 2, 1) := sl_row agL_21 gL_21 (i := 17) (r := (23, .iconst 2, 1)) rfl
theorem dL_law_1368 : decode cL_law 1368 = .ok (.iadd, 1) := sl_row agL_21 gL_21 (i := 18) (r := (24, .iadd, 1)) rfl
theorem dL_law_1369 : decode cL_law 1369 = .ok (.iaload, 1) := sl_row agL_21 gL_21 (i := 19) (r := (25, .iaload, 1)) rfl
theorem dL_law_1370 : decode cL_law 1370 = .ok (.aload_n 0, 1) := sl_row agL_21 gL_21 (i := 20) (r := (26, .aload_n 0, 1)) rfl
theorem dL_law_1371 : decode cL_law 1371 = .ok (.iload 5, 2) := sl_row agL_21 gL_21 (i := 21) (r := (27, .iload 5, 2)) rfl
theorem dL_law_1373 : decode cL_law 1373 = .ok (.iconst 3, 1) := sl_row agL_21 gL_21 (i := 22) (r := (29, .iconst 3, 1)) rfl
theorem dL_law_1374 : decode cL_law 1374 = .ok (.iadd, 1) := sl_row agL_21 gL_21 (i := 23) (r := (30, .iadd, 1)) rfl
theorem dL_law_1375 : decode cL_law 1375 = .ok (.iaload, 1) := sl_row agL_21 gL_21 (i := 24) (r := (31, .iaload, 1)) rfl
theorem dL_law_1376 : decode cL_law 1376 = .ok (.invokevirtual 220, 3) := sl_row agL_21 gL_21 (i := 25) (r := (32, .invokevirtual 220, 3)) rfl
theorem dL_law_1379 : decode cL_law 1379 = .ok (.istore 7, 2) := sl_row agL_21 gL_21 (i := 26) (r := (35, .istore 7, 2)) rfl
theorem dL_law_1381 : decode cL_law 1381 = .ok (.aload_n 2, 1) := sl_row agL_21 gL_21 (i := 27) (r := (37, .aload_n 2, 1)) rfl
theorem dL_law_1382 : decode cL_law 1382 = .ok (.invokevirtual 149, 3) := sl_row agL_21 gL_21 (i := 28) (r := (38, .invokevirtual 149, 3)) rfl
theorem dL_law_1385 : decode cL_law 1385 = .ok (.iload 6, 2) := sl_row agL_21 gL_21 (i := 29) (r := (41, .iload 6, 2)) rfl
theorem dL_law_1387 : decode cL_law 1387 = .ok (.if_icmp .eq 5, 3) := sl_row agL_21 gL_21 (i := 30) (r := (43, .if_icmp .eq 5, 3)) rfl
theorem dL_law_1390 : decode cL_law 1390 = .ok (.iconst 0, 1) := sl_row agL_21 gL_21 (i := 31) (r := (46, .iconst 0, 1)) rfl
theorem dL_law_1391 : decode cL_law 1391 = .ok (.ireturn, 1) := sl_row agL_21 gL_21 (i := 32) (r := (47, .ireturn, 1)) rfl
theorem dL_law_1392 : decode cL_law 1392 = .ok (.iload 6, 2) := sl_row agL_21 gL_21 (i := 33) (r := (48, .iload 6, 2)) rfl
theorem dL_law_1394 : decode cL_law 1394 = .ok (.ifCond .ne 15, 3) := sl_row agL_21 gL_21 (i := 34) (r := (50, .ifCond .ne 15, 3)) rfl
theorem dL_law_1397 : decode cL_law 1397 = .ok (.aload_n 3, 1) := sl_row agL_21 gL_21 (i := 35) (r := (53, .aload_n 3, 1)) rfl
theorem dL_law_1398 : decode cL_law 1398 = .ok (.iconst 0, 1) := sl_row agL_21 gL_21 (i := 36) (r := (54, .iconst 0, 1)) rfl
theorem dL_law_1399 : decode cL_law 1399 = .ok (.laload, 1) := sl_row agL_21 gL_21 (i := 37) (r := (55, .laload, 1)) rfl
theorem dL_law_1400 : decode cL_law 1400 = .ok (.iload 7, 2) := sl_row agL_21 gL_21 (i := 38) (r := (56, .iload 7, 2)) rfl
theorem dL_law_1402 : decode cL_law 1402 = .ok (.i2l, 1) := sl_row agL_21 gL_21 (i := 39) (r := (58, .i2l, 1)) rfl
theorem dL_law_1403 : decode cL_law 1403 = .ok (.lcmp, 1) := sl_row agL_21 gL_21 (i := 40) (r := (59, .lcmp, 1)) rfl
theorem dL_law_1404 : decode cL_law 1404 = .ok (.ifCond .eq 5, 3) := sl_row agL_21 gL_21 (i := 41) (r := (60, .ifCond .eq 5, 3)) rfl
theorem dL_law_1407 : decode cL_law 1407 = .ok (.iconst 0, 1) := sl_row agL_21 gL_21 (i := 42) (r := (63, .iconst 0, 1)) rfl
def ck_22 : ByteArray := .mk #[0xac, 0xa7, 0x06, 0x0c, 0x2b, 0x2a, 0x15, 0x05, 0x04, 0x60, 0x2e, 0x2d, 0xb8, 0x00, 0xdd, 0x36, 0x06, 0x2c, 0x2a, 0x15, 0x05, 0x04, 0x60, 0x2e, 0xb6, 0x00, 0xdf, 0x36, 0x07, 0x2c, 0xb6, 0x00, 0x95, 0x15, 0x06, 0x9f, 0x00, 0x05, 0x03, 0xac, 0x15, 0x06, 0x9a, 0x00, 0x0f, 0x2d, 0x03, 0x2f, 0x15, 0x07, 0x85, 0x94, 0x99, 0x00, 0x05, 0x03, 0xac, 0xa7, 0x05, 0xd4, 0x2b, 0x2a, 0x15, 0x05, 0x04, 0x60, 0x2e, 0x2d]
set_option maxRecDepth 20000 in
theorem agL_22 : ∀ q, agB cL_law ck_22 (1408 + q) q := agB_of 1408 (by decide +kernel)
def tL_22 : List (Nat × Instr × Nat) := [(0, .ireturn, 1), (1, .goto 1548, 3), (4, .aload_n 1, 1), (5, .aload_n 0, 1), (6, .iload 5, 2), (8, .iconst 1, 1), (9, .iadd, 1), (10, .iaload, 1), (11, .aload_n 3, 1), (12, .invokestatic 221, 3), (15, .istore 6, 2), (17, .aload_n 2, 1), (18, .aload_n 0, 1), (19, .iload 5, 2), (21, .iconst 1, 1), (22, .iadd, 1), (23, .iaload, 1), (24, .invokevirtual 223, 3), (27, .istore 7, 2), (29, .aload_n 2, 1), (30, .invokevirtual 149, 3), (33, .iload 6, 2), (35, .if_icmp .eq 5, 3), (38, .iconst 0, 1), (39, .ireturn, 1), (40, .iload 6, 2), (42, .ifCond .ne 15, 3), (45, .aload_n 3, 1), (46, .iconst 0, 1), (47, .laload, 1), (48, .iload 7, 2), (50, .i2l, 1), (51, .lcmp, 1), (52, .ifCond .eq 5, 3), (55, .iconst 0, 1), (56, .ireturn, 1), (57, .goto 1492, 3), (60, .aload_n 1, 1), (61, .aload_n 0, 1), (62, .iload 5, 2)]
theorem gL_22 : tL_22.all (fun r => opB ck_22 r.1 && decide (decode ck_22 r.1 = .ok (r.2.1, r.2.2))) = true := by decide +kernel
theorem dL_law_1408 : decode cL_law 1408 = .ok (.ireturn, 1) := sl_row agL_22 gL_22 (i := 0) (r := (0, .ireturn, 1)) rfl
theorem dL_law_1409 : decode cL_law 1409 = .ok (.goto 1548, 3) := sl_row agL_22 gL_22 (i := 1) (r := (1, .goto 1548, 3)) rfl
theorem dL_law_1412 : decode cL_law 1412 = .ok (.aload_n 1, 1) := sl_row agL_22 gL_22 (i := 2) (r := (4, .aload_n 1, 1)) rfl
theorem dL_law_1413 : decode cL_law 1413 = .ok (.aload_n 0, 1) := sl_row agL_22 gL_22 (i := 3) (r := (5, .aload_n 0, 1)) rfl
theorem dL_law_1414 : decode cL_law 1414 = .ok (.iload 5, 2) := sl_row agL_22 gL_22 (i := 4) (r := (6, .iload 5, 2)) rfl
theorem dL_law_1416 : decode cL_law 1416 = .ok (.iconst 1, 1) := sl_row agL_22 gL_22 (i := 5) (r := (8, .iconst 1, 1)) rfl
theorem dL_law_1417 : decode cL_law 1417 = .ok (.iadd, 1) := sl_row agL_22 gL_22 (i := 6) (r := (9, .iadd, 1)) rfl
theorem dL_law_1418 : decode cL_law 1418 = .ok (.iaload, 1) := sl_row agL_22 gL_22 (i := 7) (r := (10, .iaload, 1)) rfl
theorem dL_law_1419 : decode cL_law 1419 = .ok (.aload_n 3, 1) := sl_row agL_22 gL_22 (i := 8) (r := (11, .aload_n 3, 1)) rfl
theorem dL_law_1420 : decode cL_law 1420 = .ok (.invokestatic 221, 3) := sl_row agL_22 gL_22 (i := 9) (r := (12, .invokestatic 221, 3)) rfl
theorem dL_law_1423 : decode cL_law 1423 = .ok (.istore 6, 2) := sl_row agL_22 gL_22 (i := 10) (r := (15, .istore 6, 2)) rfl
theorem dL_law_1425 : decode cL_law 1425 = .ok (.aload_n 2, 1) := sl_row agL_22 gL_22 (i := 11) (r := (17, .aload_n 2, 1)) rfl
theorem dL_law_1426 : decode cL_law 1426 = .ok (.aload_n 0, 1) := sl_row agL_22 gL_22 (i := 12) (r := (18, .aload_n 0, 1)) rfl
theorem dL_law_1427 : decode cL_law 1427 = .ok (.iload 5, 2) := sl_row agL_22 gL_22 (i := 13) (r := (19, .iload 5, 2)) rfl
theorem dL_law_1429 : decode cL_law 1429 = .ok (.iconst 1, 1) := sl_row agL_22 gL_22 (i := 14) (r := (21, .iconst 1, 1)) rfl
theorem dL_law_1430 : decode cL_law 1430 = .ok (.iadd, 1) := sl_row agL_22 gL_22 (i := 15) (r := (22, .iadd, 1)) rfl
theorem dL_law_1431 : decode cL_law 1431 = .ok (.iaload, 1) := sl_row agL_22 gL_22 (i := 16) (r := (23, .iaload, 1)) rfl
theorem dL_law_1432 : decode cL_law 1432 = .ok (.invokevirtual 223, 3) := sl_row agL_22 gL_22 (i := 17) (r := (24, .invokevirtual 223, 3)) rfl
theorem dL_law_1435 : decode cL_law 1435 = .ok (.istore 7, 2) := sl_row agL_22 gL_22 (i := 18) (r := (27, .istore 7, 2)) rfl
theorem dL_law_1437 : decode cL_law 1437 = .ok (.aload_n 2, 1) := sl_row agL_22 gL_22 (i := 19) (r := (29, .aload_n 2, 1)) rfl
theorem dL_law_1438 : decode cL_law 1438 = .ok (.invokevirtual 149, 3) := sl_row agL_22 gL_22 (i := 20) (r := (30, .invokevirtual 149, 3)) rfl
theorem dL_law_1441 : decode cL_law 1441 = .ok (.iload 6, 2) := sl_row agL_22 gL_22 (i := 21) (r := (33, .iload 6, 2)) rfl
theorem dL_law_1443 : decode cL_law 1443 = .ok (.if_icmp .eq 5, 3) := sl_row agL_22 gL_22 (i := 22) (r := (35, .if_icmp .eq 5, 3)) rfl
theorem dL_law_1446 : decode cL_law 1446 = .ok (.iconst 0, 1) := sl_row agL_22 gL_22 (i := 23) (r := (38, .iconst 0, 1)) rfl
theorem dL_law_1447 : decode cL_law 1447 = .ok (.ireturn, 1) := sl_row agL_22 gL_22 (i := 24) (r := (39, .ireturn, 1)) rfl
theorem dL_law_1448 : decode cL_law 1448 = .ok (.iload 6, 2) := sl_row agL_22 gL_22 (i := 25) (r := (40, .iload 6, 2)) rfl
theorem dL_law_1450 : decode cL_law 1450 = .ok (.ifCond .ne 15, 3) := sl_row agL_22 gL_22 (i := 26) (r := (42, .ifCond .ne 15, 3)) rfl
theorem dL_law_1453 : decode cL_law 1453 = .ok (.aload_n 3, 1) := sl_row agL_22 gL_22 (i := 27) (r := (45, .aload_n 3, 1)) rfl
theorem dL_law_1454 : decode cL_law 1454 = .ok (.iconst 0, 1) := sl_row agL_22 gL_22 (i := 28) (r := (46, .iconst 0, 1)) rfl
theorem dL_law_1455 : decode cL_law 1455 = .ok (.laload, 1) := sl_row agL_22 gL_22 (i := 29) (r := (47, .laload, 1)) rfl
theorem dL_law_1456 : decode cL_law 1456 = .ok (.iload 7, 2) := sl_row agL_22 gL_22 (i := 30) (r := (48, .iload 7, 2)) rfl
theorem dL_law_1458 : decode cL_law 1458 = .ok (.i2l, 1) := sl_row agL_22 gL_22 (i := 31) (r := (50, .i2l, 1)) rfl
theorem dL_law_1459 : decode cL_law 1459 = .ok (.lcmp, 1) := sl_row agL_22 gL_22 (i := 32) (r := (51, .lcmp, 1)) rfl
theorem dL_law_1460 : decode cL_law 1460 = .ok (.ifCond .eq 5, 3) := sl_row agL_22 gL_22 (i := 33) (r := (52, .ifCond .eq 5, 3)) rfl
theorem dL_law_1463 : decode cL_law 1463 = .ok (.iconst 0, 1) := sl_row agL_22 gL_22 (i := 34) (r := (55, .iconst 0, 1)) rfl
theorem dL_law_1464 : decode cL_law 1464 = .ok (.ireturn, 1) := sl_row agL_22 gL_22 (i := 35) (r := (56, .ireturn, 1)) rfl
theorem dL_law_1465 : decode cL_law 1465 = .ok (.goto 1492, 3) := sl_row agL_22 gL_22 (i := 36) (r := (57, .goto 1492, 3)) rfl
theorem dL_law_1468 : decode cL_law 1468 = .ok (.aload_n 1, 1) := sl_row agL_22 gL_22 (i := 37) (r := (60, .aload_n 1, 1)) rfl
theorem dL_law_1469 : decode cL_law 1469 = .ok (.aload_n 0, 1) := sl_row agL_22 gL_22 (i := 38) (r := (61, .aload_n 0, 1)) rfl
theorem dL_law_1470 : decode cL_law 1470 = .ok (.iload 5, 2) := sl_row agL_22 gL_22 (i := 39) (r := (62, .iload 5, 2)) rfl
def ck_23 : ByteArray := .mk #[0x04, 0x60, 0x2e, 0x2d, 0xb8, 0x00, 0xe0, 0x36, 0x06, 0x2c, 0x2a, 0x15, 0x05, 0x04, 0x60, 0x2e, 0xb6, 0x00, 0xe2, 0x36, 0x07, 0x2c, 0xb6, 0x00, 0x95, 0x15, 0x06, 0x9f, 0x00, 0x05, 0x03, 0xac, 0x15, 0x06, 0x9a, 0x00, 0x16, 0x2d, 0x03, 0x2f, 0x15, 0x07, 0x99, 0x00, 0x07, 0x0a, 0xa7, 0x00, 0x04, 0x09, 0x94, 0x99, 0x00, 0x05, 0x03, 0xac, 0xa7, 0x05, 0x95, 0x2b, 0x2a, 0x15, 0x05, 0x04, 0x60, 0x2e, 0x2d, 0xb8]
set_option maxRecDepth 20000 in
theorem agL_23 : ∀ q, agB cL_law ck_23 (1472 + q) q := agB_of 1472 (by decide +kernel)
def tL_23 : List (Nat × Instr × Nat) := [(0, .iconst 1, 1), (1, .iadd, 1), (2, .iaload, 1), (3, .aload_n 3, 1), (4, .invokestatic 224, 3), (7, .istore 6, 2), (9, .aload_n 2, 1), (10, .aload_n 0, 1), (11, .iload 5, 2), (13, .iconst 1, 1), (14, .iadd, 1), (15, .iaload, 1), (16, .invokevirtual 226, 3), (19, .istore 7, 2), (21, .aload_n 2, 1), (22, .invokevirtual 149, 3), (25, .iload 6, 2), (27, .if_icmp .eq 5, 3), (30, .iconst 0, 1), (31, .ireturn, 1), (32, .iload 6, 2), (34, .ifCond .ne 22, 3), (37, .aload_n 3, 1), (38, .iconst 0, 1), (39, .laload, 1), (40, .iload 7, 2), (42, .ifCond .eq 7, 3), (45, .lconst 1, 1), (46, .goto 4, 3), (49, .lconst 0, 1), (50, .lcmp, 1), (51, .ifCond .eq 5, 3), (54, .iconst 0, 1), (55, .ireturn, 1), (56, .goto 1429, 3), (59, .aload_n 1, 1), (60, .aload_n 0, 1), (61, .iload 5, 2), (63, .iconst 1, 1)]
theorem gL_23 : tL_23.all (fun r => opB ck_23 r.1 && decide (decode ck_23 r.1 = .ok (r.2.1, r.2.2))) = true := by decide +kernel
theorem dL_law_1472 : decode cL_law 1472 = .ok (.iconst 1, 1) := sl_row agL_23 gL_23 (i := 0) (r := (0, .iconst 1, 1)) rfl
theorem dL_law_1473 : decode cL_law 1473 = .ok (.iadd, 1) := sl_row agL_23 gL_23 (i := 1) (r := (1, .iadd, 1)) rfl
theorem dL_law_1474 : decode cL_law 1474 = .ok (.iaload, 1) := sl_row agL_23 gL_23 (i := 2) (r := (2, .iaload, 1)) rfl
theorem dL_law_1475 : decode cL_law 1475 = .ok (.aload_n 3, 1) := sl_row agL_23 gL_23 (i := 3) (r := (3, .aload_n 3, 1)) rfl
theorem dL_law_1476 : decode cL_law 1476 = .ok (.invokestatic 224, 3) := sl_row agL_23 gL_23 (i := 4) (r := (4, .invokestatic 224, 3)) rfl
theorem dL_law_1479 : decode cL_law 1479 = .ok (.istore 6, 2) := sl_row agL_23 gL_23 (i := 5) (r := (7, .istore 6, 2)) rfl
theorem dL_law_1481 : decode cL_law 1481 = .ok (.aload_n 2, 1) := sl_row agL_23 gL_23 (i := 6) (r := (9, .aload_n 2, 1)) rfl
theorem dL_law_1482 : decode cL_law 1482 = .ok (.aload_n 0, 1) := sl_row agL_23 gL_23 (i := 7) (r := (10, .aload_n 0, 1)) rfl
theorem dL_law_1483 : decode cL_law 1483 = .ok (.iload 5, 2) := sl_row agL_23 gL_23 (i := 8) (r := (11, .iload 5, 2)) rfl
theorem dL_law_1485 : decode cL_law 1485 = .ok (.iconst 1, 1) := sl_row agL_23 gL_23 (i := 9) (r := (13, .iconst 1, 1)) rfl
theorem dL_law_1486 : decode cL_law 1486 = .ok (.iadd, 1) := sl_row agL_23 gL_23 (i := 10) (r := (14, .iadd, 1)) rfl
theorem dL_law_1487 : decode cL_law 1487 = .ok (.iaload, 1) := sl_row agL_23 gL_23 (i := 11) (r := (15, .iaload, 1)) rfl
theorem dL_law_1488 : decode cL_law 1488 = .ok (.invokevirtual 226, 3) := sl_row agL_23 gL_23 (i := 12) (r := (16, .invokevirtual 226, 3)) rfl
theorem dL_law_1491 : decode cL_law 1491 = .ok (.istore 7, 2) := sl_row agL_23 gL_23 (i := 13) (r := (19, .istore 7, 2)) rfl
theorem dL_law_1493 : decode cL_law 1493 = .ok (.aload_n 2, 1) := sl_row agL_23 gL_23 (i := 14) (r := (21, .aload_n 2, 1)) rfl
theorem dL_law_1494 : decode cL_law 1494 = .ok (.invokevirtual 149, 3) := sl_row agL_23 gL_23 (i := 15) (r := (22, .invokevirtual 149, 3)) rfl
theorem dL_law_1497 : decode cL_law 1497 = .ok (.iload 6, 2) := sl_row agL_23 gL_23 (i := 16) (r := (25, .iload 6, 2)) rfl
theorem dL_law_1499 : decode cL_law 1499 = .ok (.if_icmp .eq 5, 3) := sl_row agL_23 gL_23 (i := 17) (r := (27, .if_icmp .eq 5, 3)) rfl
theorem dL_law_1502 : decode cL_law 1502 = .ok (.iconst 0, 1) := sl_row agL_23 gL_23 (i := 18) (r := (30, .iconst 0, 1)) rfl
theorem dL_law_1503 : decode cL_law 1503 = .ok (.ireturn, 1) := sl_row agL_23 gL_23 (i := 19) (r := (31, .ireturn, 1)) rfl
theorem dL_law_1504 : decode cL_law 1504 = .ok (.iload 6, 2) := sl_row agL_23 gL_23 (i := 20) (r := (32, .iload 6, 2)) rfl
theorem dL_law_1506 : decode cL_law 1506 = .ok (.ifCond .ne 22, 3) := sl_row agL_23 gL_23 (i := 21) (r := (34, .ifCond .ne 22, 3)) rfl
theorem dL_law_1509 : decode cL_law 1509 = .ok (.aload_n 3, 1) := sl_row agL_23 gL_23 (i := 22) (r := (37, .aload_n 3, 1)) rfl
theorem dL_law_1510 : decode cL_law 1510 = .ok (.iconst 0, 1) := sl_row agL_23 gL_23 (i := 23) (r := (38, .iconst 0, 1)) rfl
theorem dL_law_1511 : decode cL_law 1511 = .ok (.laload, 1) := sl_row agL_23 gL_23 (i := 24) (r := (39, .laload, 1)) rfl
theorem dL_law_1512 : decode cL_law 1512 = .ok (.iload 7, 2) := sl_row agL_23 gL_23 (i := 25) (r := (40, .iload 7, 2)) rfl
theorem dL_law_1514 : decode cL_law 1514 = .ok (.ifCond .eq 7, 3) := sl_row agL_23 gL_23 (i := 26) (r := (42, .ifCond .eq 7, 3)) rfl
theorem dL_law_1517 : decode cL_law 1517 = .ok (.lconst 1, 1) := sl_row agL_23 gL_23 (i := 27) (r := (45, .lconst 1, 1)) rfl
theorem dL_law_1518 : decode cL_law 1518 = .ok (.goto 4, 3) := sl_row agL_23 gL_23 (i := 28) (r := (46, .goto 4, 3)) rfl
theorem dL_law_1521 : decode cL_law 1521 = .ok (.lconst 0, 1) := sl_row agL_23 gL_23 (i := 29) (r := (49, .lconst 0, 1)) rfl
theorem dL_law_1522 : decode cL_law 1522 = .ok (.lcmp, 1) := sl_row agL_23 gL_23 (i := 30) (r := (50, .lcmp, 1)) rfl
theorem dL_law_1523 : decode cL_law 1523 = .ok (.ifCond .eq 5, 3) := sl_row agL_23 gL_23 (i := 31) (r := (51, .ifCond .eq 5, 3)) rfl
theorem dL_law_1526 : decode cL_law 1526 = .ok (.iconst 0, 1) := sl_row agL_23 gL_23 (i := 32) (r := (54, .iconst 0, 1)) rfl
theorem dL_law_1527 : decode cL_law 1527 = .ok (.ireturn, 1) := sl_row agL_23 gL_23 (i := 33) (r := (55, .ireturn, 1)) rfl
theorem dL_law_1528 : decode cL_law 1528 = .ok (.goto 1429, 3) := sl_row agL_23 gL_23 (i := 34) (r := (56, .goto 1429, 3)) rfl
theorem dL_law_1531 : decode cL_law 1531 = .ok (.aload_n 1, 1) := sl_row agL_23 gL_23 (i := 35) (r := (59, .aload_n 1, 1)) rfl
theorem dL_law_1532 : decode cL_law 1532 = .ok (.aload_n 0, 1) := sl_row agL_23 gL_23 (i := 36) (r := (60, .aload_n 0, 1)) rfl
theorem dL_law_1533 : decode cL_law 1533 = .ok (.iload 5, 2) := sl_row agL_23 gL_23 (i := 37) (r := (61, .iload 5, 2)) rfl
theorem dL_law_1535 : decode cL_law 1535 = .ok (.iconst 1, 1) := sl_row agL_23 gL_23 (i := 38) (r := (63, .iconst 1, 1)) rfl
def ck_24 : ByteArray := .mk #[0x60, 0x2e, 0x2d, 0xb8, 0x00, 0xe3, 0x36, 0x06, 0x2c, 0x2a, 0x15, 0x05, 0x04, 0x60, 0x2e, 0xb6, 0x00, 0xe5, 0x36, 0x07, 0x2c, 0xb6, 0x00, 0x95, 0x15, 0x06, 0x9f, 0x00, 0x05, 0x03, 0xac, 0x15, 0x06, 0x9a, 0x00, 0x0f, 0x2d, 0x03, 0x2f, 0x15, 0x07, 0x85, 0x94, 0x99, 0x00, 0x05, 0x03, 0xac, 0xa7, 0x05, 0x5d, 0x2b, 0x2a, 0x15, 0x05, 0x04, 0x60, 0x2e, 0x2d, 0xb8, 0x00, 0xe6, 0x36, 0x06, 0x2c, 0x2a, 0x15, 0x05]
set_option maxRecDepth 20000 in
theorem agL_24 : ∀ q, agB cL_law ck_24 (1536 + q) q := agB_of 1536 (by decide +kernel)
def tL_24 : List (Nat × Instr × Nat) := [(0, .iadd, 1), (1, .iaload, 1), (2, .aload_n 3, 1), (3, .invokestatic 227, 3), (6, .istore 6, 2), (8, .aload_n 2, 1), (9, .aload_n 0, 1), (10, .iload 5, 2), (12, .iconst 1, 1), (13, .iadd, 1), (14, .iaload, 1), (15, .invokevirtual 229, 3), (18, .istore 7, 2), (20, .aload_n 2, 1), (21, .invokevirtual 149, 3), (24, .iload 6, 2), (26, .if_icmp .eq 5, 3), (29, .iconst 0, 1), (30, .ireturn, 1), (31, .iload 6, 2), (33, .ifCond .ne 15, 3), (36, .aload_n 3, 1), (37, .iconst 0, 1), (38, .laload, 1), (39, .iload 7, 2), (41, .i2l, 1), (42, .lcmp, 1), (43, .ifCond .eq 5, 3), (46, .iconst 0, 1), (47, .ireturn, 1), (48, .goto 1373, 3), (51, .aload_n 1, 1), (52, .aload_n 0, 1), (53, .iload 5, 2), (55, .iconst 1, 1), (56, .iadd, 1), (57, .iaload, 1), (58, .aload_n 3, 1), (59, .invokestatic 230, 3), (62, .istore 6, 2)]
theorem gL_24 : tL_24.all (fun r => opB ck_24 r.1 && decide (decode ck_24 r.1 = .ok (r.2.1, r.2.2))) = true := by decide +kernel
theorem dL_law_1536 : decode cL_law 1536 = .ok (.iadd, 1) := sl_row agL_24 gL_24 (i := 0) (r := (0, .iadd, 1)) rfl
theorem dL_law_1537 : decode cL_law 1537 = .ok (.iaload, 1) := sl_row agL_24 gL_24 (i := 1) (r := (1, .iaload, 1)) rfl
theorem dL_law_1538 : decode cL_law 1538 = .ok (.aload_n 3, 1) := sl_row agL_24 gL_24 (i := 2) (r := (2, .aload_n 3, 1)) rfl
theorem dL_law_1539 : decode cL_law 1539 = .ok (.invokestatic 227, 3) := sl_row agL_24 gL_24 (i := 3) (r := (3, .invokestatic 227, 3)) rfl
theorem dL_law_1542 : decode cL_law 1542 = .ok (.istore 6, 2) := sl_row agL_24 gL_24 (i := 4) (r := (6, .istore 6, 2)) rfl
theorem dL_law_1544 : decode cL_law 1544 = .ok (.aload_n 2, 1) := sl_row agL_24 gL_24 (i := 5) (r := (8, .aload_n 2, 1)) rfl
theorem dL_law_1545 : decode cL_law 1545 = .ok (.aload_n 0, 1) := sl_row agL_24 gL_24 (i := 6) (r := (9, .aload_n 0, 1)) rfl
theorem dL_law_1546 : decode cL_law 1546 = .ok (.iload 5, 2) := sl_row agL_24 gL_24 (i := 7) (r := (10, .iload 5, 2)) rfl
theorem dL_law_1548 : decode cL_law 1548 = .ok (.iconst 1, 1) := sl_row agL_24 gL_24 (i := 8) (r := (12, .iconst 1, 1)) rfl
theorem dL_law_1549 : decode cL_law 1549 = .ok (.iadd, 1) := sl_row agL_24 gL_24 (i := 9) (r := (13, .iadd, 1)) rfl
theorem dL_law_1550 : decode cL_law 1550 = .ok (.iaload, 1) := sl_row agL_24 gL_24 (i := 10) (r := (14, .iaload, 1)) rfl
theorem dL_law_1551 : decode cL_law 1551 = .ok (.invokevirtual 229, 3) := sl_row agL_24 gL_24 (i := 11) (r := (15, .invokevirtual 229, 3)) rfl
theorem dL_law_1554 : decode cL_law 1554 = .ok (.istore 7, 2) := sl_row agL_24 gL_24 (i := 12) (r := (18, .istore 7, 2)) rfl
theorem dL_law_1556 : decode cL_law 1556 = .ok (.aload_n 2, 1) := sl_row agL_24 gL_24 (i := 13) (r := (20, .aload_n 2, 1)) rfl
theorem dL_law_1557 : decode cL_law 1557 = .ok (.invokevirtual 149, 3) := sl_row agL_24 gL_24 (i := 14) (r := (21, .invokevirtual 149, 3)) rfl
theorem dL_law_1560 : decode cL_law 1560 = .ok (.iload 6, 2) := sl_row agL_24 gL_24 (i := 15) (r := (24, .iload 6, 2)) rfl
theorem dL_law_1562 : decode cL_law 1562 = .ok (.if_icmp .eq 5, 3) := sl_row agL_24 gL_24 (i := 16) (r := (26, .if_icmp .eq 5, 3)) rfl
theorem dL_law_1565 : decode cL_law 1565 = .ok (.iconst 0, 1) := sl_row agL_24 gL_24 (i := 17) (r := (29, .iconst 0, 1)) rfl
theorem dL_law_1566 : decode cL_law 1566 = .ok (.ireturn, 1) := sl_row agL_24 gL_24 (i := 18) (r := (30, .ireturn, 1)) rfl
theorem dL_law_1567 : decode cL_law 1567 = .ok (.iload 6, 2) := sl_row agL_24 gL_24 (i := 19) (r := (31, .iload 6, 2)) rfl
theorem dL_law_1569 : decode cL_law 1569 = .ok (.ifCond .ne 15, 3) := sl_row agL_24 gL_24 (i := 20) (r := (33, .ifCond .ne 15, 3)) rfl
theorem dL_law_1572 : decode cL_law 1572 = .ok (.aload_n 3, 1) := sl_row agL_24 gL_24 (i := 21) (r := (36, .aload_n 3, 1)) rfl
theorem dL_law_1573 : decode cL_law 1573 = .ok (.iconst 0, 1) := sl_row agL_24 gL_24 (i := 22) (r := (37, .iconst 0, 1)) rfl
theorem dL_law_1574 : decode cL_law 1574 = .ok (.laload, 1) := sl_row agL_24 gL_24 (i := 23) (r := (38, .laload, 1)) rfl
theorem dL_law_1575 : decode cL_law 1575 = .ok (.iload 7, 2) := sl_row agL_24 gL_24 (i := 24) (r := (39, .iload 7, 2)) rfl
theorem dL_law_1577 : decode cL_law 1577 = .ok (.i2l, 1) := sl_row agL_24 gL_24 (i := 25) (r := (41, .i2l, 1)) rfl
theorem dL_law_1578 : decode cL_law 1578 = .ok (.lcmp, 1) := sl_row agL_24 gL_24 (i := 26) (r := (42, .lcmp, 1)) rfl
theorem dL_law_1579 : decode cL_law 1579 = .ok (.ifCond .eq 5, 3) := sl_row agL_24 gL_24 (i := 27) (r := (43, .ifCond .eq 5, 3)) rfl
theorem dL_law_1582 : decode cL_law 1582 = .ok (.iconst 0, 1) := sl_row agL_24 gL_24 (i := 28) (r := (46, .iconst 0, 1)) rfl
theorem dL_law_1583 : decode cL_law 1583 = .ok (.ireturn, 1) := sl_row agL_24 gL_24 (i := 29) (r := (47, .ireturn, 1)) rfl
theorem dL_law_1584 : decode cL_law 1584 = .ok (.goto 1373, 3) := sl_row agL_24 gL_24 (i := 30) (r := (48, .goto 1373, 3)) rfl
theorem dL_law_1587 : decode cL_law 1587 = .ok (.aload_n 1, 1) := sl_row agL_24 gL_24 (i := 31) (r := (51, .aload_n 1, 1)) rfl
theorem dL_law_1588 : decode cL_law 1588 = .ok (.aload_n 0, 1) := sl_row agL_24 gL_24 (i := 32) (r := (52, .aload_n 0, 1)) rfl
theorem dL_law_1589 : decode cL_law 1589 = .ok (.iload 5, 2) := sl_row agL_24 gL_24 (i := 33) (r := (53, .iload 5, 2)) rfl
theorem dL_law_1591 : decode cL_law 1591 = .ok (.iconst 1, 1) := sl_row agL_24 gL_24 (i := 34) (r := (55, .iconst 1, 1)) rfl
theorem dL_law_1592 : decode cL_law 1592 = .ok (.iadd, 1) := sl_row agL_24 gL_24 (i := 35) (r := (56, .iadd, 1)) rfl
theorem dL_law_1593 : decode cL_law 1593 = .ok (.iaload, 1) := sl_row agL_24 gL_24 (i := 36) (r := (57, .iaload, 1)) rfl
theorem dL_law_1594 : decode cL_law 1594 = .ok (.aload_n 3, 1) := sl_row agL_24 gL_24 (i := 37) (r := (58, .aload_n 3, 1)) rfl
theorem dL_law_1595 : decode cL_law 1595 = .ok (.invokestatic 230, 3) := sl_row agL_24 gL_24 (i := 38) (r := (59, .invokestatic 230, 3)) rfl
theorem dL_law_1598 : decode cL_law 1598 = .ok (.istore 6, 2) := sl_row agL_24 gL_24 (i := 39) (r := (62, .istore 6, 2)) rfl
def ck_25 : ByteArray := .mk #[0x2c, 0x2a, 0x15, 0x05, 0x04, 0x60, 0x2e, 0xb6, 0x00, 0xe8, 0x36, 0x07, 0x2c, 0xb6, 0x00, 0x95, 0x15, 0x06, 0x9f, 0x00, 0x05, 0x03, 0xac, 0x15, 0x06, 0x9a, 0x00, 0x0f, 0x2d, 0x03, 0x2f, 0x15, 0x07, 0x85, 0x94, 0x99, 0x00, 0x05, 0x03, 0xac, 0xa7, 0x05, 0x25, 0x2b, 0x2a, 0x15, 0x05, 0x04, 0x60, 0x2e, 0x2d, 0xb8, 0x00, 0xe9, 0x36, 0x06, 0x2c, 0x2a, 0x15, 0x05, 0x04, 0x60, 0x2e, 0xb6, 0x00, 0xeb, 0x36, 0x07]
set_option maxRecDepth 20000 in
theorem agL_25 : ∀ q, agB cL_law ck_25 (1600 + q) q := agB_of 1600 (by decide +kernel)
def tL_25 : List (Nat × Instr × Nat) := [(0, .aload_n 2, 1), (1, .aload_n 0, 1), (2, .iload 5, 2), (4, .iconst 1, 1), (5, .iadd, 1), (6, .iaload, 1), (7, .invokevirtual 232, 3), (10, .istore 7, 2), (12, .aload_n 2, 1), (13, .invokevirtual 149, 3), (16, .iload 6, 2), (18, .if_icmp .eq 5, 3), (21, .iconst 0, 1), (22, .ireturn, 1), (23, .iload 6, 2), (25, .ifCond .ne 15, 3), (28, .aload_n 3, 1), (29, .iconst 0, 1), (30, .laload, 1), (31, .iload 7, 2), (33, .i2l, 1), (34, .lcmp, 1), (35, .ifCond .eq 5, 3), (38, .iconst 0, 1), (39, .ireturn, 1), (40, .goto 1317, 3), (43, .aload_n 1, 1), (44, .aload_n 0, 1), (45, .iload 5, 2), (47, .iconst 1, 1), (48, .iadd, 1), (49, .iaload, 1), (50, .aload_n 3, 1), (51, .invokestatic 233, 3), (54, .istore 6, 2), (56, .aload_n 2, 1), (57, .aload_n 0, 1), (58, .iload 5, 2), (60, .iconst 1, 1), (61, .iadd, 1), (62, .iaload, 1), (63, .invokevirtual 235, 3)]
theorem gL_25 : tL_25.all (fun r => opB ck_25 r.1 && decide (decode ck_25 r.1 = .ok (r.2.1, r.2.2))) = true := by decide +kernel
theorem dL_law_1600 : decode cL_law 1600 = .ok (.aload_n 2, 1) := sl_row agL_25 gL_25 (i := 0) (r := (0, .aload_n 2, 1)) rfl
theorem dL_law_1601 : decode cL_law 1601 = .ok (.aload_n 0, 1) := sl_row agL_25 gL_25 (i := 1) (r := (1, .aload_n 0, 1)) rfl
theorem dL_law_1602 : decode cL_law 1602 = .ok (.iload 5, 2) := sl_row agL_25 gL_25 (i := 2) (r := (2, .iload 5, 2)) rfl
theorem dL_law_1604 : decode cL_law 1604 = .ok (.iconst 1, 1) := sl_row agL_25 gL_25 (i := 3) (r := (4, .iconst 1, 1)) rfl
theorem dL_law_1605 : decode cL_law 1605 = .ok (.iadd, 1) := sl_row agL_25 gL_25 (i := 4) (r := (5, .iadd, 1)) rfl
theorem dL_law_1606 : decode cL_law 1606 = .ok (.iaload, 1) := sl_row agL_25 gL_25 (i := 5) (r := (6, .iaload, 1)) rfl
theorem dL_law_1607 : decode cL_law 1607 = .ok (.invokevirtual 232, 3) := sl_row agL_25 gL_25 (i := 6) (r := (7, .invokevirtual 232, 3)) rfl
theorem dL_law_1610 : decode cL_law 1610 = .ok (.istore 7, 2) := sl_row agL_25 gL_25 (i := 7) (r := (10, .istore 7, 2)) rfl
theorem dL_law_1612 : decode cL_law 1612 = .ok (.aload_n 2, 1) := sl_row agL_25 gL_25 (i := 8) (r := (12, .aload_n 2, 1)) rfl
theorem dL_law_1613 : decode cL_law 1613 = .ok (.invokevirtual 149, 3) := sl_row agL_25 gL_25 (i := 9) (r := (13, .invokevirtual 149, 3)) rfl
theorem dL_law_1616 : decode cL_law 1616 = .ok (.iload 6, 2) := sl_row agL_25 gL_25 (i := 10) (r := (16, .iload 6, 2)) rfl
theorem dL_law_1618 : decode cL_law 1618 = .ok (.if_icmp .eq 5, 3) := sl_row agL_25 gL_25 (i := 11) (r := (18, .if_icmp .eq 5, 3)) rfl
theorem dL_law_1621 : decode cL_law 1621 = .ok (.iconst 0, 1) := sl_row agL_25 gL_25 (i := 12) (r := (21, .iconst 0, 1)) rfl
theorem dL_law_1622 : decode cL_law 1622 = .ok (.ireturn, 1) := sl_row agL_25 gL_25 (i := 13) (r := (22, .ireturn, 1)) rfl
theorem dL_law_1623 : decode cL_law 1623 = .ok (.iload 6, 2) := sl_row agL_25 gL_25 (i := 14) (r := (23, .iload 6, 2)) rfl
theorem dL_law_1625 : decode cL_law 1625 = .ok (.ifCond .ne 15, 3) := sl_row agL_25 gL_25 (i := 15) (r := (25, .ifCond .ne 15, 3)) rfl
theorem dL_law_1628 : decode cL_law 1628 = .ok (.aload_n 3, 1) := sl_row agL_25 gL_25 (i := 16) (r := (28, .aload_n 3, 1)) rfl
theorem dL_law_1629 : decode cL_law 1629 = .ok (.iconst 0, 1) := sl_row agL_25 gL_25 (i := 17) (r := (29, .iconst 0, 1)) rfl
theorem dL_law_1630 : decode cL_law 1630 = .ok (.laload, 1) := sl_row agL_25 gL_25 (i := 18) (r := (30, .laload, 1)) rfl
theorem dL_law_1631 : decode cL_law 1631 = .ok (.iload 7, 2) := sl_row agL_25 gL_25 (i := 19) (r := (31, .iload 7, 2)) rfl
theorem dL_law_1633 : decode cL_law 1633 = .ok (.i2l, 1) := sl_row agL_25 gL_25 (i := 20) (r := (33, .i2l, 1)) rfl
theorem dL_law_1634 : decode cL_law 1634 = .ok (.lcmp, 1) := sl_row agL_25 gL_25 (i := 21) (r := (34, .lcmp, 1)) rfl
theorem dL_law_1635 : decode cL_law 1635 = .ok (.ifCond .eq 5, 3) := sl_row agL_25 gL_25 (i := 22) (r := (35, .ifCond .eq 5, 3)) rfl
theorem dL_law_1638 : decode cL_law 1638 = .ok (.iconst 0, 1) := sl_row agL_25 gL_25 (i := 23) (r := (38, .iconst 0, 1)) rfl
theorem dL_law_1639 : decode cL_law 1639 = .ok (.ireturn, 1) := sl_row agL_25 gL_25 (i := 24) (r := (39, .ireturn, 1)) rfl
theorem dL_law_1640 : decode cL_law 1640 = .ok (.goto 1317, 3) := sl_row agL_25 gL_25 (i := 25) (r := (40, .goto 1317, 3)) rfl
theorem dL_law_1643 : decode cL_law 1643 = .ok (.aload_n 1, 1) := sl_row agL_25 gL_25 (i := 26) (r := (43, .aload_n 1, 1)) rfl
theorem dL_law_1644 : decode cL_law 1644 = .ok (.aload_n 0, 1) := sl_row agL_25 gL_25 (i := 27) (r := (44, .aload_n 0, 1)) rfl
theorem dL_law_1645 : decode cL_law 1645 = .ok (.iload 5, 2) := sl_row agL_25 gL_25 (i := 28) (r := (45, .iload 5, 2)) rfl
theorem dL_law_1647 : decode cL_law 1647 = .ok (.iconst 1, 1) := sl_row agL_25 gL_25 (i := 29) (r := (47, .iconst 1, 1)) rfl
theorem dL_law_1648 : decode cL_law 1648 = .ok (.iadd, 1) := sl_row agL_25 gL_25 (i := 30) (r := (48, .iadd, 1)) rfl
theorem dL_law_1649 : decode cL_law 1649 = .ok (.iaload, 1) := sl_row agL_25 gL_25 (i := 31) (r := (49, .iaload, 1)) rfl
theorem dL_law_1650 : decode cL_law 1650 = .ok (.aload_n 3, 1) := sl_row agL_25 gL_25 (i := 32) (r := (50, .aload_n 3, 1)) rfl
theorem dL_law_1651 : decode cL_law 1651 = .ok (.invokestatic 233, 3) := sl_row agL_25 gL_25 (i := 33) (r := (51, .invokestatic 233, 3)) rfl
theorem dL_law_1654 : decode cL_law 1654 = .ok (.istore 6, 2) := sl_row agL_25 gL_25 (i := 34) (r := (54, .istore 6, 2)) rfl
theorem dL_law_1656 : decode cL_law 1656 = .ok (.aload_n 2, 1) := sl_row agL_25 gL_25 (i := 35) (r := (56, .aload_n 2, 1)) rfl
theorem dL_law_1657 : decode cL_law 1657 = .ok (.aload_n 0, 1) := sl_row agL_25 gL_25 (i := 36) (r := (57, .aload_n 0, 1)) rfl
theorem dL_law_1658 : decode cL_law 1658 = .ok (.iload 5, 2) := sl_row agL_25 gL_25 (i := 37) (r := (58, .iload 5, 2)) rfl
theorem dL_law_1660 : decode cL_law 1660 = .ok (.iconst 1, 1) := sl_row agL_25 gL_25 (i := 38) (r := (60, .iconst 1, 1)) rfl
theorem dL_law_1661 : decode cL_law 1661 = .ok (.iadd, 1) := sl_row agL_25 gL_25 (i := 39) (r := (61, .iadd, 1)) rfl
theorem dL_law_1662 : decode cL_law 1662 = .ok (.iaload, 1) := sl_row agL_25 gL_25 (i := 40) (r := (62, .iaload, 1)) rfl
theorem dL_law_1663 : decode cL_law 1663 = .ok (.invokevirtual 235, 3) := sl_row agL_25 gL_25 (i := 41) (r := (63, .invokevirtual 235, 3)) rfl
def ck_26 : ByteArray := .mk #[0x00, 0xeb, 0x36, 0x07, 0x2c, 0xb6, 0x00, 0x95, 0x15, 0x06, 0x9f, 0x00, 0x05, 0x03, 0xac, 0x15, 0x06, 0x9a, 0x00, 0x0f, 0x2d, 0x03, 0x2f, 0x15, 0x07, 0x85, 0x94, 0x99, 0x00, 0x05, 0x03, 0xac, 0xa7, 0x04, 0xed, 0x2b, 0x2a, 0x15, 0x05, 0x04, 0x60, 0x2e, 0x2a, 0x15, 0x05, 0x05, 0x60, 0x2e, 0x2a, 0x15, 0x05, 0x06, 0x60, 0x2e, 0x2d, 0xb8, 0x00, 0xec, 0x36, 0x06, 0x2c, 0x2a, 0x15, 0x05, 0x04, 0x60, 0x2e, 0x2a]
set_option maxRecDepth 20000 in
theorem agL_26 : ∀ q, agB cL_law ck_26 (1664 + q) q := agB_of 1664 (by decide +kernel)
def tL_26 : List (Nat × Instr × Nat) := [(2, .istore 7, 2), (4, .aload_n 2, 1), (5, .invokevirtual 149, 3), (8, .iload 6, 2), (10, .if_icmp .eq 5, 3), (13, .iconst 0, 1), (14, .ireturn, 1), (15, .iload 6, 2), (17, .ifCond .ne 15, 3), (20, .aload_n 3, 1), (21, .iconst 0, 1), (22, .laload, 1), (23, .iload 7, 2), (25, .i2l, 1), (26, .lcmp, 1), (27, .ifCond .eq 5, 3), (30, .iconst 0, 1), (31, .ireturn, 1), (32, .goto 1261, 3), (35, .aload_n 1, 1), (36, .aload_n 0, 1), (37, .iload 5, 2), (39, .iconst 1, 1), (40, .iadd, 1), (41, .iaload, 1), (42, .aload_n 0, 1), (43, .iload 5, 2), (45, .iconst 2, 1), (46, .iadd, 1), (47, .iaload, 1), (48, .aload_n 0, 1), (49, .iload 5, 2), (51, .iconst 3, 1), (52, .iadd, 1), (53, .iaload, 1), (54, .aload_n 3, 1), (55, .invokestatic 236, 3), (58, .istore 6, 2), (60, .aload_n 2, 1), (61, .aload_n 0, 1), (62, .iload 5, 2)]
theorem gL_26 : tL_26.all (fun r => opB ck_26 r.1 && decide (decode ck_26 r.1 = .ok (r.2.1, r.2.2))) = true := by decide +kernel
theorem dL_law_1666 : decode cL_law 1666 = .ok (.istore 7, 2) := sl_row agL_26 gL_26 (i := 0) (r := (2, .istore 7, 2)) rfl
theorem dL_law_1668 : decode cL_law 1668 = .ok (.aload_n 2, 1) := sl_row agL_26 gL_26 (i := 1) (r := (4, .aload_n 2, 1)) rfl
theorem dL_law_1669 : decode cL_law 1669 = .ok (.invokevirtual 149, 3) := sl_row agL_26 gL_26 (i := 2) (r := (5, .invokevirtual 149, 3)) rfl
theorem dL_law_1672 : decode cL_law 1672 = .ok (.iload 6, 2) := sl_row agL_26 gL_26 (i := 3) (r := (8, .iload 6, 2)) rfl
theorem dL_law_1674 : decode cL_law 1674 = .ok (.if_icmp .eq 5, 3) := sl_row agL_26 gL_26 (i := 4) (r := (10, .if_icmp .eq 5, 3)) rfl
theorem dL_law_1677 : decode cL_law 1677 = .ok (.iconst 0, 1) := sl_row agL_26 gL_26 (i := 5) (r := (13, .iconst 0, 1)) rfl
theorem dL_law_1678 : decode cL_law 1678 = .ok (.ireturn, 1) := sl_row agL_26 gL_26 (i := 6) (r := (14, .ireturn, 1)) rfl
theorem dL_law_1679 : decode cL_law 1679 = .ok (.iload 6, 2) := sl_row agL_26 gL_26 (i := 7) (r := (15, .iload 6, 2)) rfl
theorem dL_law_1681 : decode cL_law 1681 = .ok (.ifCond .ne 15, 3) := sl_row agL_26 gL_26 (i := 8) (r := (17, .ifCond .ne 15, 3)) rfl
theorem dL_law_1684 : decode cL_law 1684 = .ok (.aload_n 3, 1) := sl_row agL_26 gL_26 (i := 9) (r := (20, .aload_n 3, 1)) rfl
theorem dL_law_1685 : decode cL_law 1685 = .ok (.iconst 0, 1) := sl_row agL_26 gL_26 (i := 10) (r := (21, .iconst 0, 1)) rfl
theorem dL_law_1686 : decode cL_law 1686 = .ok (.laload, 1) := sl_row agL_26 gL_26 (i := 11) (r := (22, .laload, 1)) rfl
theorem dL_law_1687 : decode cL_law 1687 = .ok (.iload 7, 2) := sl_row agL_26 gL_26 (i := 12) (r := (23, .iload 7, 2)) rfl
theorem dL_law_1689 : decode cL_law 1689 = .ok (.i2l, 1) := sl_row agL_26 gL_26 (i := 13) (r := (25, .i2l, 1)) rfl
theorem dL_law_1690 : decode cL_law 1690 = .ok (.lcmp, 1) := sl_row agL_26 gL_26 (i := 14) (r := (26, .lcmp, 1)) rfl
theorem dL_law_1691 : decode cL_law 1691 = .ok (.ifCond .eq 5, 3) := sl_row agL_26 gL_26 (i := 15) (r := (27, .ifCond .eq 5, 3)) rfl
theorem dL_law_1694 : decode cL_law 1694 = .ok (.iconst 0, 1) := sl_row agL_26 gL_26 (i := 16) (r := (30, .iconst 0, 1)) rfl
theorem dL_law_1695 : decode cL_law 1695 = .ok (.ireturn, 1) := sl_row agL_26 gL_26 (i := 17) (r := (31, .ireturn, 1)) rfl
theorem dL_law_1696 : decode cL_law 1696 = .ok (.goto 1261, 3) := sl_row agL_26 gL_26 (i := 18) (r := (32, .goto 1261, 3)) rfl
theorem dL_law_1699 : decode cL_law 1699 = .ok (.aload_n 1, 1) := sl_row agL_26 gL_26 (i := 19) (r := (35, .aload_n 1, 1)) rfl
theorem dL_law_1700 : decode cL_law 1700 = .ok (.aload_n 0, 1) := sl_row agL_26 gL_26 (i := 20) (r := (36, .aload_n 0, 1)) rfl
theorem dL_law_1701 : decode cL_law 1701 = .ok (.iload 5, 2) := sl_row agL_26 gL_26 (i := 21) (r := (37, .iload 5, 2)) rfl
theorem dL_law_1703 : decode cL_law 1703 = .ok (.iconst 1, 1) := sl_row agL_26 gL_26 (i := 22) (r := (39, .iconst 1, 1)) rfl
theorem dL_law_1704 : decode cL_law 1704 = .ok (.iadd, 1) := sl_row agL_26 gL_26 (i := 23) (r := (40, .iadd, 1)) rfl
theorem dL_law_1705 : decode cL_law 1705 = .ok (.iaload, 1) := sl_row agL_26 gL_26 (i := 24) (r := (41, .iaload, 1)) rfl
theorem dL_law_1706 : decode cL_law 1706 = .ok (.aload_n 0, 1) := sl_row agL_26 gL_26 (i := 25) (r := (42, .aload_n 0, 1)) rfl
theorem dL_law_1707 : decode cL_law 1707 = .ok (.iload 5, 2) := sl_row agL_26 gL_26 (i := 26) (r := (43, .iload 5, 2)) rfl
theorem dL_law_1709 : decode cL_law 1709 = .ok (.iconst 2, 1) := sl_row agL_26 gL_26 (i := 27) (r := (45, .iconst 2, 1)) rfl
theorem dL_law_1710 : decode cL_law 1710 = .ok (.iadd, 1) := sl_row agL_26 gL_26 (i := 28) (r := (46, .iadd, 1)) rfl
theorem dL_law_1711 : decode cL_law 1711 = .ok (.iaload, 1) := sl_row agL_26 gL_26 (i := 29) (r := (47, .iaload, 1)) rfl
theorem dL_law_1712 : decode cL_law 1712 = .ok (.aload_n 0, 1) := sl_row agL_26 gL_26 (i := 30) (r := (48, .aload_n 0, 1)) rfl
theorem dL_law_1713 : decode cL_law 1713 = .ok (.iload 5, 2) := sl_row agL_26 gL_26 (i := 31) (r := (49, .iload 5, 2)) rfl
theorem dL_law_1715 : decode cL_law 1715 = .ok (.iconst 3, 1) := sl_row agL_26 gL_26 (i := 32) (r := (51, .iconst 3, 1)) rfl
theorem dL_law_1716 : decode cL_law 1716 = .ok (.iadd, 1) := sl_row agL_26 gL_26 (i := 33) (r := (52, .iadd, 1)) rfl
theorem dL_law_1717 : decode cL_law 1717 = .ok (.iaload, 1) := sl_row agL_26 gL_26 (i := 34) (r := (53, .iaload, 1)) rfl
theorem dL_law_1718 : decode cL_law 1718 = .ok (.aload_n 3, 1) := sl_row agL_26 gL_26 (i := 35) (r := (54, .aload_n 3, 1)) rfl
theorem dL_law_1719 : decode cL_law 1719 = .ok (.invokestatic 236, 3) := sl_row agL_26 gL_26 (i := 36) (r := (55, .invokestatic 236, 3)) rfl
theorem dL_law_1722 : decode cL_law 1722 = .ok (.istore 6, 2) := sl_row agL_26 gL_26 (i := 37) (r := (58, .istore 6, 2)) rfl
theorem dL_law_1724 : decode cL_law 1724 = .ok (.aload_n 2, 1) := sl_row agL_26 gL_26 (i := 38) (r := (60, .aload_n 2, 1)) rfl
theorem dL_law_1725 : decode cL_law 1725 = .ok (.aload_n 0, 1) := sl_row agL_26 gL_26 (i := 39) (r := (61, .aload_n 0, 1)) rfl
theorem dL_law_1726 : decode cL_law 1726 = .ok (.iload 5, 2) := sl_row agL_26 gL_26 (i := 40) (r := (62, .iload 5, 2)) rfl
def ck_27 : ByteArray := .mk #[0x04, 0x60, 0x2e, 0x2a, 0x15, 0x05, 0x05, 0x60, 0x2e, 0x2a, 0x15, 0x05, 0x06, 0x60, 0x2e, 0xb6, 0x00, 0xee, 0x36, 0x07, 0x2c, 0xb6, 0x00, 0x95, 0x15, 0x06, 0x9f, 0x00, 0x05, 0x03, 0xac, 0x15, 0x06, 0x9a, 0x00, 0x0f, 0x2d, 0x03, 0x2f, 0x15, 0x07, 0x85, 0x94, 0x99, 0x00, 0x05, 0x03, 0xac, 0xa7, 0x04, 0x9d, 0x2b, 0x2a, 0x15, 0x05, 0x04, 0x60, 0x2e, 0x2a, 0x15, 0x05, 0x05, 0x60, 0x2e, 0x2d, 0xb8, 0x00, 0xef]
set_option maxRecDepth 20000 in
theorem agL_27 : ∀ q, agB cL_law ck_27 (1728 + q) q := agB_of 1728 (by decide +kernel)
def tL_27 : List (Nat × Instr × Nat) := [(0, .iconst 1, 1), (1, .iadd, 1), (2, .iaload, 1), (3, .aload_n 0, 1), (4, .iload 5, 2), (6, .iconst 2, 1), (7, .iadd, 1), (8, .iaload, 1), (9, .aload_n 0, 1), (10, .iload 5, 2), (12, .iconst 3, 1), (13, .iadd, 1), (14, .iaload, 1), (15, .invokevirtual 238, 3), (18, .istore 7, 2), (20, .aload_n 2, 1), (21, .invokevirtual 149, 3), (24, .iload 6, 2), (26, .if_icmp .eq 5, 3), (29, .iconst 0, 1), (30, .ireturn, 1), (31, .iload 6, 2), (33, .ifCond .ne 15, 3), (36, .aload_n 3, 1), (37, .iconst 0, 1), (38, .laload, 1), (39, .iload 7, 2), (41, .i2l, 1), (42, .lcmp, 1), (43, .ifCond .eq 5, 3), (46, .iconst 0, 1), (47, .ireturn, 1), (48, .goto 1181, 3), (51, .aload_n 1, 1), (52, .aload_n 0, 1), (53, .iload 5, 2), (55, .iconst 1, 1), (56, .iadd, 1), (57, .iaload, 1), (58, .aload_n 0, 1), (59, .iload 5, 2), (61, .iconst 2, 1), (62, .iadd, 1), (63, .iaload, 1)]
theorem gL_27 : tL_27.all (fun r => opB ck_27 r.1 && decide (decode ck_27 r.1 = .ok (r.2.1, r.2.2))) = true := by decide +kernel
theorem dL_law_1728 : decode cL_law 1728 = .ok (.iconst 1, 1) := sl_row agL_27 gL_27 (i := 0) (r := (0, .iconst 1, 1)) rfl
theorem dL_law_1729 : decode cL_law 1729 = .ok (.iadd, 1) := sl_row agL_27 gL_27 (i := 1) (r := (1, .iadd, 1)) rfl
theorem dL_law_1730 : decode cL_law 1730 = .ok (.iaload, 1) := sl_row agL_27 gL_27 (i := 2) (r := (2, .iaload, 1)) rfl
theorem dL_law_1731 : decode cL_law 1731 = .ok (.aload_n 0, 1) := sl_row agL_27 gL_27 (i := 3) (r := (3, .aload_n 0, 1)) rfl
theorem dL_law_1732 : decode cL_law 1732 = .ok (.iload 5, 2) := sl_row agL_27 gL_27 (i := 4) (r := (4, .iload 5, 2)) rfl
theorem dL_law_1734 : decode cL_law 1734 = .ok (.iconst 2, 1) := sl_row agL_27 gL_27 (i := 5) (r := (6, .iconst 2, 1)) rfl
theorem dL_law_1735 : decode cL_law 1735 = .ok (.iadd, 1) := sl_row agL_27 gL_27 (i := 6) (r := (7, .iadd, 1)) rfl
theorem dL_law_1736 : decode cL_law 1736 = .ok (.iaload, 1) := sl_row agL_27 gL_27 (i := 7) (r := (8, .iaload, 1)) rfl
theorem dL_law_1737 : decode cL_law 1737 = .ok (.aload_n 0, 1) := sl_row agL_27 gL_27 (i := 8) (r := (9, .aload_n 0, 1)) rfl
theorem dL_law_1738 : decode cL_law 1738 = .ok (.iload 5, 2) := sl_row agL_27 gL_27 (i := 9) (r := (10, .iload 5, 2)) rfl
theorem dL_law_1740 : decode cL_law 1740 = .ok (.iconst 3, 1) := sl_row agL_27 gL_27 (i := 10) (r := (12, .iconst 3, 1)) rfl
theorem dL_law_1741 : decode cL_law 1741 = .ok (.iadd, 1) := sl_row agL_27 gL_27 (i := 11) (r := (13, .iadd, 1)) rfl
theorem dL_law_1742 : decode cL_law 1742 = .ok (.iaload, 1) := sl_row agL_27 gL_27 (i := 12) (r := (14, .iaload, 1)) rfl
theorem dL_law_1743 : decode cL_law 1743 = .ok (.invokevirtual 238, 3) := sl_row agL_27 gL_27 (i := 13) (r := (15, .invokevirtual 238, 3)) rfl
theorem dL_law_1746 : decode cL_law 1746 = .ok (.istore 7, 2) := sl_row agL_27 gL_27 (i := 14) (r := (18, .istore 7, 2)) rfl
theorem dL_law_1748 : decode cL_law 1748 = .ok (.aload_n 2, 1) := sl_row agL_27 gL_27 (i := 15) (r := (20, .aload_n 2, 1)) rfl
theorem dL_law_1749 : decode cL_law 1749 = .ok (.invokevirtual 149, 3) := sl_row agL_27 gL_27 (i := 16) (r := (21, .invokevirtual 149, 3)) rfl
theorem dL_law_1752 : decode cL_law 1752 = .ok (.iload 6, 2) := sl_row agL_27 gL_27 (i := 17) (r := (24, .iload 6, 2)) rfl
theorem dL_law_1754 : decode cL_law 1754 = .ok (.if_icmp .eq 5, 3) := sl_row agL_27 gL_27 (i := 18) (r := (26, .if_icmp .eq 5, 3)) rfl
theorem dL_law_1757 : decode cL_law 1757 = .ok (.iconst 0, 1) := sl_row agL_27 gL_27 (i := 19) (r := (29, .iconst 0, 1)) rfl
theorem dL_law_1758 : decode cL_law 1758 = .ok (.ireturn, 1) := sl_row agL_27 gL_27 (i := 20) (r := (30, .ireturn, 1)) rfl
theorem dL_law_1759 : decode cL_law 1759 = .ok (.iload 6, 2) := sl_row agL_27 gL_27 (i := 21) (r := (31, .iload 6, 2)) rfl
theorem dL_law_1761 : decode cL_law 1761 = .ok (.ifCond .ne 15, 3) := sl_row agL_27 gL_27 (i := 22) (r := (33, .ifCond .ne 15, 3)) rfl
theorem dL_law_1764 : decode cL_law 1764 = .ok (.aload_n 3, 1) := sl_row agL_27 gL_27 (i := 23) (r := (36, .aload_n 3, 1)) rfl
theorem dL_law_1765 : decode cL_law 1765 = .ok (.iconst 0, 1) := sl_row agL_27 gL_27 (i := 24) (r := (37, .iconst 0, 1)) rfl
theorem dL_law_1766 : decode cL_law 1766 = .ok (.laload, 1) := sl_row agL_27 gL_27 (i := 25) (r := (38, .laload, 1)) rfl
theorem dL_law_1767 : decode cL_law 1767 = .ok (.iload 7, 2) := sl_row agL_27 gL_27 (i := 26) (r := (39, .iload 7, 2)) rfl
theorem dL_law_1769 : decode cL_law 1769 = .ok (.i2l, 1) := sl_row agL_27 gL_27 (i := 27) (r := (41, .i2l, 1)) rfl
theorem dL_law_1770 : decode cL_law 1770 = .ok (.lcmp, 1) := sl_row agL_27 gL_27 (i := 28) (r := (42, .lcmp, 1)) rfl
theorem dL_law_1771 : decode cL_law 1771 = .ok (.ifCond .eq 5, 3) := sl_row agL_27 gL_27 (i := 29) (r := (43, .ifCond .eq 5, 3)) rfl
theorem dL_law_1774 : decode cL_law 1774 = .ok (.iconst 0, 1) := sl_row agL_27 gL_27 (i := 30) (r := (46, .iconst 0, 1)) rfl
theorem dL_law_1775 : decode cL_law 1775 = .ok (.ireturn, 1) := sl_row agL_27 gL_27 (i := 31) (r := (47, .ireturn, 1)) rfl
theorem dL_law_1776 : decode cL_law 1776 = .ok (.goto 1181, 3) := sl_row agL_27 gL_27 (i := 32) (r := (48, .goto 1181, 3)) rfl
theorem dL_law_1779 : decode cL_law 1779 = .ok (.aload_n 1, 1) := sl_row agL_27 gL_27 (i := 33) (r := (51, .aload_n 1, 1)) rfl
theorem dL_law_1780 : decode cL_law 1780 = .ok (.aload_n 0, 1) := sl_row agL_27 gL_27 (i := 34) (r := (52, .aload_n 0, 1)) rfl
theorem dL_law_1781 : decode cL_law 1781 = .ok (.iload 5, 2) := sl_row agL_27 gL_27 (i := 35) (r := (53, .iload 5, 2)) rfl
theorem dL_law_1783 : decode cL_law 1783 = .ok (.iconst 1, 1) := sl_row agL_27 gL_27 (i := 36) (r := (55, .iconst 1, 1)) rfl
theorem dL_law_1784 : decode cL_law 1784 = .ok (.iadd, 1) := sl_row agL_27 gL_27 (i := 37) (r := (56, .iadd, 1)) rfl
theorem dL_law_1785 : decode cL_law 1785 = .ok (.iaload, 1) := sl_row agL_27 gL_27 (i := 38) (r := (57, .iaload, 1)) rfl
theorem dL_law_1786 : decode cL_law 1786 = .ok (.aload_n 0, 1) := sl_row agL_27 gL_27 (i := 39) (r := (58, .aload_n 0, 1)) rfl
theorem dL_law_1787 : decode cL_law 1787 = .ok (.iload 5, 2) := sl_row agL_27 gL_27 (i := 40) (r := (59, .iload 5, 2)) rfl
theorem dL_law_1789 : decode cL_law 1789 = .ok (.iconst 2, 1) := sl_row agL_27 gL_27 (i := 41) (r := (61, .iconst 2, 1)) rfl
theorem dL_law_1790 : decode cL_law 1790 = .ok (.iadd, 1) := sl_row agL_27 gL_27 (i := 42) (r := (62, .iadd, 1)) rfl
theorem dL_law_1791 : decode cL_law 1791 = .ok (.iaload, 1) := sl_row agL_27 gL_27 (i := 43) (r := (63, .iaload, 1)) rfl
def ck_28 : ByteArray := .mk #[0x2d, 0xb8, 0x00, 0xef, 0x36, 0x06, 0x2c, 0x2a, 0x15, 0x05, 0x04, 0x60, 0x2e, 0x2a, 0x15, 0x05, 0x05, 0x60, 0x2e, 0xb6, 0x00, 0xf1, 0x36, 0x07, 0x2c, 0xb6, 0x00, 0x95, 0x15, 0x06, 0x9f, 0x00, 0x05, 0x03, 0xac, 0x15, 0x06, 0x9a, 0x00, 0x0f, 0x2d, 0x03, 0x2f, 0x15, 0x07, 0x85, 0x94, 0x99, 0x00, 0x05, 0x03, 0xac, 0xa7, 0x04, 0x59, 0x2b, 0x2a, 0x15, 0x05, 0x04, 0x60, 0x2e, 0x2d, 0xb8, 0x00, 0xf2, 0x36, 0x06]
set_option maxRecDepth 20000 in
theorem agL_28 : ∀ q, agB cL_law ck_28 (1792 + q) q := agB_of 1792 (by decide +kernel)
def tL_28 : List (Nat × Instr × Nat) := [(0, .aload_n 3, 1), (1, .invokestatic 239, 3), (4, .istore 6, 2), (6, .aload_n 2, 1), (7, .aload_n 0, 1), (8, .iload 5, 2), (10, .iconst 1, 1), (11, .iadd, 1), (12, .iaload, 1), (13, .aload_n 0, 1), (14, .iload 5, 2), (16, .iconst 2, 1), (17, .iadd, 1), (18, .iaload, 1), (19, .invokevirtual 241, 3), (22, .istore 7, 2), (24, .aload_n 2, 1), (25, .invokevirtual 149, 3), (28, .iload 6, 2), (30, .if_icmp .eq 5, 3), (33, .iconst 0, 1), (34, .ireturn, 1), (35, .iload 6, 2), (37, .ifCond .ne 15, 3), (40, .aload_n 3, 1), (41, .iconst 0, 1), (42, .laload, 1), (43, .iload 7, 2), (45, .i2l, 1), (46, .lcmp, 1), (47, .ifCond .eq 5, 3), (50, .iconst 0, 1), (51, .ireturn, 1), (52, .goto 1113, 3), (55, .aload_n 1, 1), (56, .aload_n 0, 1), (57, .iload 5, 2), (59, .iconst 1, 1), (60, .iadd, 1), (61, .iaload, 1), (62, .aload_n 3, 1), (63, .invokestatic 242, 3)]
theorem gL_28 : tL_28.all (fun r => opB ck_28 r.1 && decide (decode ck_28 r.1 = .ok (r.2.1, r.2.2))) = true := by decide +kernel
theorem dL_law_1792 : decode cL_law 1792 = .ok (.aload_n 3, 1) := sl_row agL_28 gL_28 (i := 0) (r := (0, .aload_n 3, 1)) rfl
theorem dL_law_1793 : decode cL_law 1793 = .ok (.invokestatic 239, 3) := sl_row agL_28 gL_28 (i := 1) (r := (1, .invokestatic 239, 3)) rfl
theorem dL_law_1796 : decode cL_law 1796 = .ok (.istore 6, 2) := sl_row agL_28 gL_28 (i := 2) (r := (4, .istore 6, 2)) rfl
theorem dL_law_1798 : decode cL_law 1798 = .ok (.aload_n 2, 1) := sl_row agL_28 gL_28 (i := 3) (r := (6, .aload_n 2, 1)) rfl
theorem dL_law_1799 : decode cL_law 1799 = .ok (.aload_n 0, 1) := sl_row agL_28 gL_28 (i := 4) (r := (7, .aload_n 0, 1)) rfl
theorem dL_law_1800 : decode cL_law 1800 = .ok (.iload 5, 2) := sl_row agL_28 gL_28 (i := 5) (r := (8, .iload 5, 2)) rfl
theorem dL_law_1802 : decode cL_law 1802 = .ok (.iconst 1, 1) := sl_row agL_28 gL_28 (i := 6) (r := (10, .iconst 1, 1)) rfl
theorem dL_law_1803 : decode cL_law 1803 = .ok (.iadd, 1) := sl_row agL_28 gL_28 (i := 7) (r := (11, .iadd, 1)) rfl
theorem dL_law_1804 : decode cL_law 1804 = .ok (.iaload, 1) := sl_row agL_28 gL_28 (i := 8) (r := (12, .iaload, 1)) rfl
theorem dL_law_1805 : decode cL_law 1805 = .ok (.aload_n 0, 1) := sl_row agL_28 gL_28 (i := 9) (r := (13, .aload_n 0, 1)) rfl
theorem dL_law_1806 : decode cL_law 1806 = .ok (.iload 5, 2) := sl_row agL_28 gL_28 (i := 10) (r := (14, .iload 5, 2)) rfl
theorem dL_law_1808 : decode cL_law 1808 = .ok (.iconst 2, 1) := sl_row agL_28 gL_28 (i := 11) (r := (16, .iconst 2, 1)) rfl
theorem dL_law_1809 : decode cL_law 1809 = .ok (.iadd, 1) := sl_row agL_28 gL_28 (i := 12) (r := (17, .iadd, 1)) rfl
theorem dL_law_1810 : decode cL_law 1810 = .ok (.iaload, 1) := sl_row agL_28 gL_28 (i := 13) (r := (18, .iaload, 1)) rfl
theorem dL_law_1811 : decode cL_law 1811 = .ok (.invokevirtual 241, 3) := sl_row agL_28 gL_28 (i := 14) (r := (19, .invokevirtual 241, 3)) rfl
theorem dL_law_1814 : decode cL_law 1814 = .ok (.istore 7, 2) := sl_row agL_28 gL_28 (i := 15) (r := (22, .istore 7, 2)) rfl
theorem dL_law_1816 : decode cL_law 1816 = .ok (.aload_n 2, 1) := sl_row agL_28 gL_28 (i := 16) (r := (24, .aload_n 2, 1)) rfl
theorem dL_law_1817 : decode cL_law 1817 = .ok (.invokevirtual 149, 3) := sl_row agL_28 gL_28 (i := 17) (r := (25, .invokevirtual 149, 3)) rfl
theorem dL_law_1820 : decode cL_law 1820 = .ok (.iload 6, 2) := sl_row agL_28 gL_28 (i := 18) (r := (28, .iload 6, 2)) rfl
theorem dL_law_1822 : decode cL_law 1822 = .ok (.if_icmp .eq 5, 3) := sl_row agL_28 gL_28 (i := 19) (r := (30, .if_icmp .eq 5, 3)) rfl
theorem dL_law_1825 : decode cL_law 1825 = .ok (.iconst 0, 1) := sl_row agL_28 gL_28 (i := 20) (r := (33, .iconst 0, 1)) rfl
theorem dL_law_1826 : decode cL_law 1826 = .ok (.ireturn, 1) := sl_row agL_28 gL_28 (i := 21) (r := (34, .ireturn, 1)) rfl
theorem dL_law_1827 : decode cL_law 1827 = .ok (.iload 6, 2) := sl_row agL_28 gL_28 (i := 22) (r := (35, .iload 6, 2)) rfl
theorem dL_law_1829 : decode cL_law 1829 = .ok (.ifCond .ne 15, 3) := sl_row agL_28 gL_28 (i := 23) (r := (37, .ifCond .ne 15, 3)) rfl
theorem dL_law_1832 : decode cL_law 1832 = .ok (.aload_n 3, 1) := sl_row agL_28 gL_28 (i := 24) (r := (40, .aload_n 3, 1)) rfl
theorem dL_law_1833 : decode cL_law 1833 = .ok (.iconst 0, 1) := sl_row agL_28 gL_28 (i := 25) (r := (41, .iconst 0, 1)) rfl
theorem dL_law_1834 : decode cL_law 1834 = .ok (.laload, 1) := sl_row agL_28 gL_28 (i := 26) (r := (42, .laload, 1)) rfl
theorem dL_law_1835 : decode cL_law 1835 = .ok (.iload 7, 2) := sl_row agL_28 gL_28 (i := 27) (r := (43, .iload 7, 2)) rfl
theorem dL_law_1837 : decode cL_law 1837 = .ok (.i2l, 1) := sl_row agL_28 gL_28 (i := 28) (r := (45, .i2l, 1)) rfl
theorem dL_law_1838 : decode cL_law 1838 = .ok (.lcmp, 1) := sl_row agL_28 gL_28 (i := 29) (r := (46, .lcmp, 1)) rfl
theorem dL_law_1839 : decode cL_law 1839 = .ok (.ifCond .eq 5, 3) := sl_row agL_28 gL_28 (i := 30) (r := (47, .ifCond .eq 5, 3)) rfl
theorem dL_law_1842 : decode cL_law 1842 = .ok (.iconst 0, 1) := sl_row agL_28 gL_28 (i := 31) (r := (50, .iconst 0, 1)) rfl
theorem dL_law_1843 : decode cL_law 1843 = .ok (.ireturn, 1) := sl_row agL_28 gL_28 (i := 32) (r := (51, .ireturn, 1)) rfl
theorem dL_law_1844 : decode cL_law 1844 = .ok (.goto 1113, 3) := sl_row agL_28 gL_28 (i := 33) (r := (52, .goto 1113, 3)) rfl
theorem dL_law_1847 : decode cL_law 1847 = .ok (.aload_n 1, 1) := sl_row agL_28 gL_28 (i := 34) (r := (55, .aload_n 1, 1)) rfl
theorem dL_law_1848 : decode cL_law 1848 = .ok (.aload_n 0, 1) := sl_row agL_28 gL_28 (i := 35) (r := (56, .aload_n 0, 1)) rfl
theorem dL_law_1849 : decode cL_law 1849 = .ok (.iload 5, 2) := sl_row agL_28 gL_28 (i := 36) (r := (57, .iload 5, 2)) rfl
theorem dL_law_1851 : decode cL_law 1851 = .ok (.iconst 1, 1) := sl_row agL_28 gL_28 (i := 37) (r := (59, .iconst 1, 1)) rfl
theorem dL_law_1852 : decode cL_law 1852 = .ok (.iadd, 1) := sl_row agL_28 gL_28 (i := 38) (r := (60, .iadd, 1)) rfl
theorem dL_law_1853 : decode cL_law 1853 = .ok (.iaload, 1) := sl_row agL_28 gL_28 (i := 39) (r := (61, .iaload, 1)) rfl
theorem dL_law_1854 : decode cL_law 1854 = .ok (.aload_n 3, 1) := sl_row agL_28 gL_28 (i := 40) (r := (62, .aload_n 3, 1)) rfl
theorem dL_law_1855 : decode cL_law 1855 = .ok (.invokestatic 242, 3) := sl_row agL_28 gL_28 (i := 41) (r := (63, .invokestatic 242, 3)) rfl
def ck_29 : ByteArray := .mk #[0x00, 0xf2, 0x36, 0x06, 0x2c, 0x2a, 0x15, 0x05, 0x04, 0x60, 0x2e, 0xb6, 0x00, 0xf4, 0x36, 0x07, 0x2c, 0xb6, 0x00, 0x95, 0x15, 0x06, 0x9f, 0x00, 0x05, 0x03, 0xac, 0x15, 0x06, 0x9a, 0x00, 0x0f, 0x2d, 0x03, 0x2f, 0x15, 0x07, 0x85, 0x94, 0x99, 0x00, 0x05, 0x03, 0xac, 0xa7, 0x04, 0x21, 0x2b, 0x2a, 0x15, 0x05, 0x04, 0x60, 0x2e, 0x2a, 0x15, 0x05, 0x05, 0x60, 0x2e, 0x2d, 0xb8, 0x00, 0xf5, 0x36, 0x06, 0x2c, 0x2a]
set_option maxRecDepth 20000 in
theorem agL_29 : ∀ q, agB cL_law ck_29 (1856 + q) q := agB_of 1856 (by decide +kernel)
def tL_29 : List (Nat × Instr × Nat) := [(2, .istore 6, 2), (4, .aload_n 2, 1), (5, .aload_n 0, 1), (6, .iload 5, 2), (8, .iconst 1, 1), (9, .iadd, 1), (10, .iaload, 1), (11, .invokevirtual 244, 3), (14, .istore 7, 2), (16, .aload_n 2, 1), (17, .invokevirtual 149, 3), (20, .iload 6, 2), (22, .if_icmp .eq 5, 3), (25, .iconst 0, 1), (26, .ireturn, 1), (27, .iload 6, 2), (29, .ifCond .ne 15, 3), (32, .aload_n 3, 1), (33, .iconst 0, 1), (34, .laload, 1), (35, .iload 7, 2), (37, .i2l, 1), (38, .lcmp, 1), (39, .ifCond .eq 5, 3), (42, .iconst 0, 1), (43, .ireturn, 1), (44, .goto 1057, 3), (47, .aload_n 1, 1), (48, .aload_n 0, 1), (49, .iload 5, 2), (51, .iconst 1, 1), (52, .iadd, 1), (53, .iaload, 1), (54, .aload_n 0, 1), (55, .iload 5, 2), (57, .iconst 2, 1), (58, .iadd, 1), (59, .iaload, 1), (60, .aload_n 3, 1), (61, .invokestatic 245, 3)]
theorem gL_29 : tL_29.all (fun r => opB ck_29 r.1 && decide (decode ck_29 r.1 = .ok (r.2.1, r.2.2))) = true := by decide +kernel
theorem dL_law_1858 : decode cL_law 1858 = .ok (.istore 6, 2) := sl_row agL_29 gL_29 (i := 0) (r := (2, .istore 6, 2)) rfl
theorem dL_law_1860 : decode cL_law 1860 = .ok (.aload_n 2, 1) := sl_row agL_29 gL_29 (i := 1) (r := (4, .aload_n 2, 1)) rfl
theorem dL_law_1861 : decode cL_law 1861 = .ok (.aload_n 0, 1) := sl_row agL_29 gL_29 (i := 2) (r := (5, .aload_n 0, 1)) rfl
theorem dL_law_1862 : decode cL_law 1862 = .ok (.iload 5, 2) := sl_row agL_29 gL_29 (i := 3) (r := (6, .iload 5, 2)) rfl
theorem dL_law_1864 : decode cL_law 1864 = .ok (.iconst 1, 1) := sl_row agL_29 gL_29 (i := 4) (r := (8, .iconst 1, 1)) rfl
theorem dL_law_1865 : decode cL_law 1865 = .ok (.iadd, 1) := sl_row agL_29 gL_29 (i := 5) (r := (9, .iadd, 1)) rfl
theorem dL_law_1866 : decode cL_law 1866 = .ok (.iaload, 1) := sl_row agL_29 gL_29 (i := 6) (r := (10, .iaload, 1)) rfl
theorem dL_law_1867 : decode cL_law 1867 = .ok (.invokevirtual 244, 3) := sl_row agL_29 gL_29 (i := 7) (r := (11, .invokevirtual 244, 3)) rfl
theorem dL_law_1870 : decode cL_law 1870 = .ok (.istore 7, 2) := sl_row agL_29 gL_29 (i := 8) (r := (14, .istore 7, 2)) rfl
theorem dL_law_1872 : decode cL_law 1872 = .ok (.aload_n 2, 1) := sl_row agL_29 gL_29 (i := 9) (r := (16, .aload_n 2, 1)) rfl
theorem dL_law_1873 : decode cL_law 1873 = .ok (.invokevirtual 149, 3) := sl_row agL_29 gL_29 (i := 10) (r := (17, .invokevirtual 149, 3)) rfl
theorem dL_law_1876 : decode cL_law 1876 = .ok (.iload 6, 2) := sl_row agL_29 gL_29 (i := 11) (r := (20, .iload 6, 2)) rfl
theorem dL_law_1878 : decode cL_law 1878 = .ok (.if_icmp .eq 5, 3) := sl_row agL_29 gL_29 (i := 12) (r := (22, .if_icmp .eq 5, 3)) rfl
theorem dL_law_1881 : decode cL_law 1881 = .ok (.iconst 0, 1) := sl_row agL_29 gL_29 (i := 13) (r := (25, .iconst 0, 1)) rfl
theorem dL_law_1882 : decode cL_law 1882 = .ok (.ireturn, 1) := sl_row agL_29 gL_29 (i := 14) (r := (26, .ireturn, 1)) rfl
theorem dL_law_1883 : decode cL_law 1883 = .ok (.iload 6, 2) := sl_row agL_29 gL_29 (i := 15) (r := (27, .iload 6, 2)) rfl
theorem dL_law_1885 : decode cL_law 1885 = .ok (.ifCond .ne 15, 3) := sl_row agL_29 gL_29 (i := 16) (r := (29, .ifCond .ne 15, 3)) rfl
theorem dL_law_1888 : decode cL_law 1888 = .ok (.aload_n 3, 1) := sl_row agL_29 gL_29 (i := 17) (r := (32, .aload_n 3, 1)) rfl
theorem dL_law_1889 : decode cL_law 1889 = .ok (.iconst 0, 1) := sl_row agL_29 gL_29 (i := 18) (r := (33, .iconst 0, 1)) rfl
theorem dL_law_1890 : decode cL_law 1890 = .ok (.laload, 1) := sl_row agL_29 gL_29 (i := 19) (r := (34, .laload, 1)) rfl
theorem dL_law_1891 : decode cL_law 1891 = .ok (.iload 7, 2) := sl_row agL_29 gL_29 (i := 20) (r := (35, .iload 7, 2)) rfl
theorem dL_law_1893 : decode cL_law 1893 = .ok (.i2l, 1) := sl_row agL_29 gL_29 (i := 21) (r := (37, .i2l, 1)) rfl
theorem dL_law_1894 : decode cL_law 1894 = .ok (.lcmp, 1) := sl_row agL_29 gL_29 (i := 22) (r := (38, .lcmp, 1)) rfl
theorem dL_law_1895 : decode cL_law 1895 = .ok (.ifCond .eq 5, 3) := sl_row agL_29 gL_29 (i := 23) (r := (39, .ifCond .eq 5, 3)) rfl
theorem dL_law_1898 : decode cL_law 1898 = .ok (.iconst 0, 1) := sl_row agL_29 gL_29 (i := 24) (r := (42, .iconst 0, 1)) rfl
theorem dL_law_1899 : decode cL_law 1899 = .ok (.ireturn, 1) := sl_row agL_29 gL_29 (i := 25) (r := (43, .ireturn, 1)) rfl
theorem dL_law_1900 : decode cL_law 1900 = .ok (.goto 1057, 3) := sl_row agL_29 gL_29 (i := 26) (r := (44, .goto 1057, 3)) rfl
theorem dL_law_1903 : decode cL_law 1903 = .ok (.aload_n 1, 1) := sl_row agL_29 gL_29 (i := 27) (r := (47, .aload_n 1, 1)) rfl
theorem dL_law_1904 : decode cL_law 1904 = .ok (.aload_n 0, 1) := sl_row agL_29 gL_29 (i := 28) (r := (48, .aload_n 0, 1)) rfl
theorem dL_law_1905 : decode cL_law 1905 = .ok (.iload 5, 2) := sl_row agL_29 gL_29 (i := 29) (r := (49, .iload 5, 2)) rfl
theorem dL_law_1907 : decode cL_law 1907 = .ok (.iconst 1, 1) := sl_row agL_29 gL_29 (i := 30) (r := (51, .iconst 1, 1)) rfl
theorem dL_law_1908 : decode cL_law 1908 = .ok (.iadd, 1) := sl_row agL_29 gL_29 (i := 31) (r := (52, .iadd, 1)) rfl
theorem dL_law_1909 : decode cL_law 1909 = .ok (.iaload, 1) := sl_row agL_29 gL_29 (i := 32) (r := (53, .iaload, 1)) rfl
theorem dL_law_1910 : decode cL_law 1910 = .ok (.aload_n 0, 1) := sl_row agL_29 gL_29 (i := 33) (r := (54, .aload_n 0, 1)) rfl
theorem dL_law_1911 : decode cL_law 1911 = .ok (.iload 5, 2) := sl_row agL_29 gL_29 (i := 34) (r := (55, .iload 5, 2)) rfl
theorem dL_law_1913 : decode cL_law 1913 = .ok (.iconst 2, 1) := sl_row agL_29 gL_29 (i := 35) (r := (57, .iconst 2, 1)) rfl
theorem dL_law_1914 : decode cL_law 1914 = .ok (.iadd, 1) := sl_row agL_29 gL_29 (i := 36) (r := (58, .iadd, 1)) rfl
theorem dL_law_1915 : decode cL_law 1915 = .ok (.iaload, 1) := sl_row agL_29 gL_29 (i := 37) (r := (59, .iaload, 1)) rfl
theorem dL_law_1916 : decode cL_law 1916 = .ok (.aload_n 3, 1) := sl_row agL_29 gL_29 (i := 38) (r := (60, .aload_n 3, 1)) rfl
theorem dL_law_1917 : decode cL_law 1917 = .ok (.invokestatic 245, 3) := sl_row agL_29 gL_29 (i := 39) (r := (61, .invokestatic 245, 3)) rfl
def ck_30 : ByteArray := .mk #[0x36, 0x06, 0x2c, 0x2a, 0x15, 0x05, 0x04, 0x60, 0x2e, 0x2a, 0x15, 0x05, 0x05, 0x60, 0x2e, 0xb6, 0x00, 0xf7, 0x36, 0x07, 0x2c, 0xb6, 0x00, 0x95, 0x15, 0x06, 0x9f, 0x00, 0x05, 0x03, 0xac, 0x15, 0x06, 0x9a, 0x00, 0x0f, 0x2d, 0x03, 0x2f, 0x15, 0x07, 0x85, 0x94, 0x99, 0x00, 0x05, 0x03, 0xac, 0xa7, 0x03, 0xdd, 0x2b, 0x2a, 0x15, 0x05, 0x04, 0x60, 0x2e, 0x2a, 0x15, 0x05, 0x05, 0x60, 0x2e, 0x2a, 0x15, 0x05, 0x06]
set_option maxRecDepth 20000 in
theorem agL_30 : ∀ q, agB cL_law ck_30 (1920 + q) q := agB_of 1920 (by decide +kernel)
def tL_30 : List (Nat × Instr × Nat) := [(0, .istore 6, 2), (2, .aload_n 2, 1), (3, .aload_n 0, 1), (4, .iload 5, 2), (6, .iconst 1, 1), (7, .iadd, 1), (8, .iaload, 1), (9, .aload_n 0, 1), (10, .iload 5, 2), (12, .iconst 2, 1), (13, .iadd, 1), (14, .iaload, 1), (15, .invokevirtual 247, 3), (18, .istore 7, 2), (20, .aload_n 2, 1), (21, .invokevirtual 149, 3), (24, .iload 6, 2), (26, .if_icmp .eq 5, 3), (29, .iconst 0, 1), (30, .ireturn, 1), (31, .iload 6, 2), (33, .ifCond .ne 15, 3), (36, .aload_n 3, 1), (37, .iconst 0, 1), (38, .laload, 1), (39, .iload 7, 2), (41, .i2l, 1), (42, .lcmp, 1), (43, .ifCond .eq 5, 3), (46, .iconst 0, 1), (47, .ireturn, 1), (48, .goto 989, 3), (51, .aload_n 1, 1), (52, .aload_n 0, 1), (53, .iload 5, 2), (55, .iconst 1, 1), (56, .iadd, 1), (57, .iaload, 1), (58, .aload_n 0, 1), (59, .iload 5, 2), (61, .iconst 2, 1), (62, .iadd, 1), (63, .iaload, 1)]
theorem gL_30 : tL_30.all (fun r => opB ck_30 r.1 && decide (decode ck_30 r.1 = .ok (r.2.1, r.2.2))) = true := by decide +kernel
theorem dL_law_1920 : decode cL_law 1920 = .ok (.istore 6, 2) := sl_row agL_30 gL_30 (i := 0) (r := (0, .istore 6, 2)) rfl
theorem dL_law_1922 : decode cL_law 1922 = .ok (.aload_n 2, 1) := sl_row agL_30 gL_30 (i := 1) (r := (2, .aload_n 2, 1)) rfl
theorem dL_law_1923 : decode cL_law 1923 = .ok (.aload_n 0, 1) := sl_row agL_30 gL_30 (i := 2) (r := (3, .aload_n 0, 1)) rfl
theorem dL_law_1924 : decode cL_law 1924 = .ok (.iload 5, 2) := sl_row agL_30 gL_30 (i := 3) (r := (4, .iload 5, 2)) rfl
theorem dL_law_1926 : decode cL_law 1926 = .ok (.iconst 1, 1) := sl_row agL_30 gL_30 (i := 4) (r := (6, .iconst 1, 1)) rfl
theorem dL_law_1927 : decode cL_law 1927 = .ok (.iadd, 1) := sl_row agL_30 gL_30 (i := 5) (r := (7, .iadd, 1)) rfl
theorem dL_law_1928 : decode cL_law 1928 = .ok (.iaload, 1) := sl_row agL_30 gL_30 (i := 6) (r := (8, .iaload, 1)) rfl
theorem dL_law_1929 : decode cL_law 1929 = .ok (.aload_n 0, 1) := sl_row agL_30 gL_30 (i := 7) (r := (9, .aload_n 0, 1)) rfl
theorem dL_law_1930 : decode cL_law 1930 = .ok (.iload 5, 2) := sl_row agL_30 gL_30 (i := 8) (r := (10, .iload 5, 2)) rfl
theorem dL_law_1932 : decode cL_law 1932 = .ok (.iconst 2, 1) := sl_row agL_30 gL_30 (i := 9) (r := (12, .iconst 2, 1)) rfl
theorem dL_law_1933 : decode cL_law 1933 = .ok (.iadd, 1) := sl_row agL_30 gL_30 (i := 10) (r := (13, .iadd, 1)) rfl
theorem dL_law_1934 : decode cL_law 1934 = .ok (.iaload, 1) := sl_row agL_30 gL_30 (i := 11) (r := (14, .iaload, 1)) rfl
theorem dL_law_1935 : decode cL_law 1935 = .ok (.invokevirtual 247, 3) := sl_row agL_30 gL_30 (i := 12) (r := (15, .invokevirtual 247, 3)) rfl
theorem dL_law_1938 : decode cL_law 1938 = .ok (.istore 7, 2) := sl_row agL_30 gL_30 (i := 13) (r := (18, .istore 7, 2)) rfl
theorem dL_law_1940 : decode cL_law 1940 = .ok (.aload_n 2, 1) := sl_row agL_30 gL_30 (i := 14) (r := (20, .aload_n 2, 1)) rfl
theorem dL_law_1941 : decode cL_law 1941 = .ok (.invokevirtual 149, 3) := sl_row agL_30 gL_30 (i := 15) (r := (21, .invokevirtual 149, 3)) rfl
theorem dL_law_1944 : decode cL_law 1944 = .ok (.iload 6, 2) := sl_row agL_30 gL_30 (i := 16) (r := (24, .iload 6, 2)) rfl
theorem dL_law_1946 : decode cL_law 1946 = .ok (.if_icmp .eq 5, 3) := sl_row agL_30 gL_30 (i := 17) (r := (26, .if_icmp .eq 5, 3)) rfl
theorem dL_law_1949 : decode cL_law 1949 = .ok (.iconst 0, 1) := sl_row agL_30 gL_30 (i := 18) (r := (29, .iconst 0, 1)) rfl
theorem dL_law_1950 : decode cL_law 1950 = .ok (.ireturn, 1) := sl_row agL_30 gL_30 (i := 19) (r := (30, .ireturn, 1)) rfl
theorem dL_law_1951 : decode cL_law 1951 = .ok (.iload 6, 2) := sl_row agL_30 gL_30 (i := 20) (r := (31, .iload 6, 2)) rfl
theorem dL_law_1953 : decode cL_law 1953 = .ok (.ifCond .ne 15, 3) := sl_row agL_30 gL_30 (i := 21) (r := (33, .ifCond .ne 15, 3)) rfl
theorem dL_law_1956 : decode cL_law 1956 = .ok (.aload_n 3, 1) := sl_row agL_30 gL_30 (i := 22) (r := (36, .aload_n 3, 1)) rfl
theorem dL_law_1957 : decode cL_law 1957 = .ok (.iconst 0, 1) := sl_row agL_30 gL_30 (i := 23) (r := (37, .iconst 0, 1)) rfl
theorem dL_law_1958 : decode cL_law 1958 = .ok (.laload, 1) := sl_row agL_30 gL_30 (i := 24) (r := (38, .laload, 1)) rfl
theorem dL_law_1959 : decode cL_law 1959 = .ok (.iload 7, 2) := sl_row agL_30 gL_30 (i := 25) (r := (39, .iload 7, 2)) rfl
theorem dL_law_1961 : decode cL_law 1961 = .ok (.i2l, 1) := sl_row agL_30 gL_30 (i := 26) (r := (41, .i2l, 1)) rfl
theorem dL_law_1962 : decode cL_law 1962 = .ok (.lcmp, 1) := sl_row agL_30 gL_30 (i := 27) (r := (42, .lcmp, 1)) rfl
theorem dL_law_1963 : decode cL_law 1963 = .ok (.ifCond .eq 5, 3) := sl_row agL_30 gL_30 (i := 28) (r := (43, .ifCond .eq 5, 3)) rfl
theorem dL_law_1966 : decode cL_law 1966 = .ok (.iconst 0, 1) := sl_row agL_30 gL_30 (i := 29) (r := (46, .iconst 0, 1)) rfl
theorem dL_law_1967 : decode cL_law 1967 = .ok (.ireturn, 1) := sl_row agL_30 gL_30 (i := 30) (r := (47, .ireturn, 1)) rfl
theorem dL_law_1968 : decode cL_law 1968 = .ok (.goto 989, 3) := sl_row agL_30 gL_30 (i := 31) (r := (48, .goto 989, 3)) rfl
theorem dL_law_1971 : decode cL_law 1971 = .ok (.aload_n 1, 1) := sl_row agL_30 gL_30 (i := 32) (r := (51, .aload_n 1, 1)) rfl
theorem dL_law_1972 : decode cL_law 1972 = .ok (.aload_n 0, 1) := sl_row agL_30 gL_30 (i := 33) (r := (52, .aload_n 0, 1)) rfl
theorem dL_law_1973 : decode cL_law 1973 = .ok (.iload 5, 2) := sl_row agL_30 gL_30 (i := 34) (r := (53, .iload 5, 2)) rfl
theorem dL_law_1975 : decode cL_law 1975 = .ok (.iconst 1, 1) := sl_row agL_30 gL_30 (i := 35) (r := (55, .iconst 1, 1)) rfl
theorem dL_law_1976 : decode cL_law 1976 = .ok (.iadd, 1) := sl_row agL_30 gL_30 (i := 36) (r := (56, .iadd, 1)) rfl
theorem dL_law_1977 : decode cL_law 1977 = .ok (.iaload, 1) := sl_row agL_30 gL_30 (i := 37) (r := (57, .iaload, 1)) rfl
theorem dL_law_1978 : decode cL_law 1978 = .ok (.aload_n 0, 1) := sl_row agL_30 gL_30 (i := 38) (r := (58, .aload_n 0, 1)) rfl
theorem dL_law_1979 : decode cL_law 1979 = .ok (.iload 5, 2) := sl_row agL_30 gL_30 (i := 39) (r := (59, .iload 5, 2)) rfl
theorem dL_law_1981 : decode cL_law 1981 = .ok (.iconst 2, 1) := sl_row agL_30 gL_30 (i := 40) (r := (61, .iconst 2, 1)) rfl
theorem dL_law_1982 : decode cL_law 1982 = .ok (.iadd, 1) := sl_row agL_30 gL_30 (i := 41) (r := (62, .iadd, 1)) rfl
theorem dL_law_1983 : decode cL_law 1983 = .ok (.iaload, 1) := sl_row agL_30 gL_30 (i := 42) (r := (63, .iaload, 1)) rfl
def ck_31 : ByteArray := .mk #[0x2a, 0x15, 0x05, 0x06, 0x60, 0x2e, 0x2d, 0xb8, 0x00, 0xf8, 0x36, 0x06, 0x2c, 0x2a, 0x15, 0x05, 0x04, 0x60, 0x2e, 0x2a, 0x15, 0x05, 0x05, 0x60, 0x2e, 0x2a, 0x15, 0x05, 0x06, 0x60, 0x2e, 0xb6, 0x00, 0xfa, 0x36, 0x07, 0x2c, 0xb6, 0x00, 0x95, 0x15, 0x06, 0x9f, 0x00, 0x05, 0x03, 0xac, 0x15, 0x06, 0x9a, 0x00, 0x16, 0x2d, 0x03, 0x2f, 0x15, 0x07, 0x99, 0x00, 0x07, 0x0a, 0xa7, 0x00, 0x04, 0x09, 0x94, 0x99, 0x00]
set_option maxRecDepth 20000 in
theorem agL_31 : ∀ q, agB cL_law ck_31 (1984 + q) q := agB_of 1984 (by decide +kernel)
def tL_31 : List (Nat × Instr × Nat) := [(0, .aload_n 0, 1), (1, .iload 5, 2), (3, .iconst 3, 1), (4, .iadd, 1), (5, .iaload, 1), (6, .aload_n 3, 1), (7, .invokestatic 248, 3), (10, .istore 6, 2), (12, .aload_n 2, 1), (13, .aload_n 0, 1), (14, .iload 5, 2), (16, .iconst 1, 1), (17, .iadd, 1), (18, .iaload, 1), (19, .aload_n 0, 1), (20, .iload 5, 2), (22, .iconst 2, 1), (23, .iadd, 1), (24, .iaload, 1), (25, .aload_n 0, 1), (26, .iload 5, 2), (28, .iconst 3, 1), (29, .iadd, 1), (30, .iaload, 1), (31, .invokevirtual 250, 3), (34, .istore 7, 2), (36, .aload_n 2, 1), (37, .invokevirtual 149, 3), (40, .iload 6, 2), (42, .if_icmp .eq 5, 3), (45, .iconst 0, 1), (46, .ireturn, 1), (47, .iload 6, 2), (49, .ifCond .ne 22, 3), (52, .aload_n 3, 1), (53, .iconst 0, 1), (54, .laload, 1), (55, .iload 7, 2), (57, .ifCond .eq 7, 3), (60, .lconst 1, 1), (61, .goto 4, 3)]
theorem gL_31 : tL_31.all (fun r => opB ck_31 r.1 && decide (decode ck_31 r.1 = .ok (r.2.1, r.2.2))) = true := by decide +kernel
theorem dL_law_1984 : decode cL_law 1984 = .ok (.aload_n 0, 1) := sl_row agL_31 gL_31 (i := 0) (r := (0, .aload_n 0, 1)) rfl
theorem dL_law_1985 : decode cL_law 1985 = .ok (.iload 5, 2) := sl_row agL_31 gL_31 (i := 1) (r := (1, .iload 5, 2)) rfl
theorem dL_law_1987 : decode cL_law 1987 = .ok (.iconst 3, 1) := sl_row agL_31 gL_31 (i := 2) (r := (3, .iconst 3, 1)) rfl
theorem dL_law_1988 : decode cL_law 1988 = .ok (.iadd, 1) := sl_row agL_31 gL_31 (i := 3) (r := (4, .iadd, 1)) rfl
theorem dL_law_1989 : decode cL_law 1989 = .ok (.iaload, 1) := sl_row agL_31 gL_31 (i := 4) (r := (5, .iaload, 1)) rfl
theorem dL_law_1990 : decode cL_law 1990 = .ok (.aload_n 3, 1) := sl_row agL_31 gL_31 (i := 5) (r := (6, .aload_n 3, 1)) rfl
theorem dL_law_1991 : decode cL_law 1991 = .ok (.invokestatic 248, 3) := sl_row agL_31 gL_31 (i := 6) (r := (7, .invokestatic 248, 3)) rfl
theorem dL_law_1994 : decode cL_law 1994 = .ok (.istore 6, 2) := sl_row agL_31 gL_31 (i := 7) (r := (10, .istore 6, 2)) rfl
theorem dL_law_1996 : decode cL_law 1996 = .ok (.aload_n 2, 1) := sl_row agL_31 gL_31 (i := 8) (r := (12, .aload_n 2, 1)) rfl
theorem dL_law_1997 : decode cL_law 1997 = .ok (.aload_n 0, 1) := sl_row agL_31 gL_31 (i := 9) (r := (13, .aload_n 0, 1)) rfl
theorem dL_law_1998 : decode cL_law 1998 = .ok (.iload 5, 2) := sl_row agL_31 gL_31 (i := 10) (r := (14, .iload 5, 2)) rfl
theorem dL_law_2000 : decode cL_law 2000 = .ok (.iconst 1, 1) := sl_row agL_31 gL_31 (i := 11) (r := (16, .iconst 1, 1)) rfl
theorem dL_law_2001 : decode cL_law 2001 = .ok (.iadd, 1) := sl_row agL_31 gL_31 (i := 12) (r := (17, .iadd, 1)) rfl
theorem dL_law_2002 : decode cL_law 2002 = .ok (.iaload, 1) := sl_row agL_31 gL_31 (i := 13) (r := (18, .iaload, 1)) rfl
theorem dL_law_2003 : decode cL_law 2003 = .ok (.aload_n 0, 1) := sl_row agL_31 gL_31 (i := 14) (r := (19, .aload_n 0, 1)) rfl
theorem dL_law_2004 : decode cL_law 2004 = .ok (.iload 5, 2) := sl_row agL_31 gL_31 (i := 15) (r := (20, .iload 5, 2)) rfl
theorem dL_law_2006 : decode cL_law 2006 = .ok (.iconst 2, 1) := sl_row agL_31 gL_31 (i := 16) (r := (22, .iconst 2, 1)) rfl
theorem dL_law_2007 : decode cL_law 2007 = .ok (.iadd, 1) := sl_row agL_31 gL_31 (i := 17) (r := (23, .iadd, 1)) rfl
theorem dL_law_2008 : decode cL_law 2008 = .ok (.iaload, 1) := sl_row agL_31 gL_31 (i := 18) (r := (24, .iaload, 1)) rfl
theorem dL_law_2009 : decode cL_law 2009 = .ok (.aload_n 0, 1) := sl_row agL_31 gL_31 (i := 19) (r := (25, .aload_n 0, 1)) rfl
theorem dL_law_2010 : decode cL_law 2010 = .ok (.iload 5, 2) := sl_row agL_31 gL_31 (i := 20) (r := (26, .iload 5, 2)) rfl
theorem dL_law_2012 : decode cL_law 2012 = .ok (.iconst 3, 1) := sl_row agL_31 gL_31 (i := 21) (r := (28, .iconst 3, 1)) rfl
theorem dL_law_2013 : decode cL_law 2013 = .ok (.iadd, 1) := sl_row agL_31 gL_31 (i := 22) (r := (29, .iadd, 1)) rfl
theorem dL_law_2014 : decode cL_law 2014 = .ok (.iaload, 1) := sl_row agL_31 gL_31 (i := 23) (r := (30, .iaload, 1)) rfl
theorem dL_law_2015 : decode cL_law 2015 = .ok (.invokevirtual 250, 3) := sl_row agL_31 gL_31 (i := 24) (r := (31, .invokevirtual 250, 3)) rfl
theorem dL_law_2018 : decode cL_law 2018 = .ok (.istore 7, 2) := sl_row agL_31 gL_31 (i := 25) (r := (34, .istore 7, 2)) rfl
theorem dL_law_2020 : decode cL_law 2020 = .ok (.aload_n 2, 1) := sl_row agL_31 gL_31 (i := 26) (r := (36, .aload_n 2, 1)) rfl
theorem dL_law_2021 : decode cL_law 2021 = .ok (.invokevirtual 149, 3) := sl_row agL_31 gL_31 (i := 27) (r := (37, .invokevirtual 149, 3)) rfl
theorem dL_law_2024 : decode cL_law 2024 = .ok (.iload 6, 2) := sl_row agL_31 gL_31 (i := 28) (r := (40, .iload 6, 2)) rfl
theorem dL_law_2026 : decode cL_law 2026 = .ok (.if_icmp .eq 5, 3) := sl_row agL_31 gL_31 (i := 29) (r := (42, .if_icmp .eq 5, 3)) rfl
theorem dL_law_2029 : decode cL_law 2029 = .ok (.iconst 0, 1) := sl_row agL_31 gL_31 (i := 30) (r := (45, .iconst 0, 1)) rfl
theorem dL_law_2030 : decode cL_law 2030 = .ok (.ireturn, 1) := sl_row agL_31 gL_31 (i := 31) (r := (46, .ireturn, 1)) rfl
theorem dL_law_2031 : decode cL_law 2031 = .ok (.iload 6, 2) := sl_row agL_31 gL_31 (i := 32) (r := (47, .iload 6, 2)) rfl
theorem dL_law_2033 : decode cL_law 2033 = .ok (.ifCond .ne 22, 3) := sl_row agL_31 gL_31 (i := 33) (r := (49, .ifCond .ne 22, 3)) rfl
theorem dL_law_2036 : decode cL_law 2036 = .ok (.aload_n 3, 1) := sl_row agL_31 gL_31 (i := 34) (r := (52, .aload_n 3, 1)) rfl
theorem dL_law_2037 : decode cL_law 2037 = .ok (.iconst 0, 1) := sl_row agL_31 gL_31 (i := 35) (r := (53, .iconst 0, 1)) rfl
theorem dL_law_2038 : decode cL_law 2038 = .ok (.laload, 1) := sl_row agL_31 gL_31 (i := 36) (r := (54, .laload, 1)) rfl
theorem dL_law_2039 : decode cL_law 2039 = .ok (.iload 7, 2) := sl_row agL_31 gL_31 (i := 37) (r := (55, .iload 7, 2)) rfl
theorem dL_law_2041 : decode cL_law 2041 = .ok (.ifCond .eq 7, 3) := sl_row agL_31 gL_31 (i := 38) (r := (57, .ifCond .eq 7, 3)) rfl
theorem dL_law_2044 : decode cL_law 2044 = .ok (.lconst 1, 1) := sl_row agL_31 gL_31 (i := 39) (r := (60, .lconst 1, 1)) rfl
theorem dL_law_2045 : decode cL_law 2045 = .ok (.goto 4, 3) := sl_row agL_31 gL_31 (i := 40) (r := (61, .goto 4, 3)) rfl
def ck_32 : ByteArray := .mk #[0x09, 0x94, 0x99, 0x00, 0x05, 0x03, 0xac, 0xa7, 0x03, 0x86, 0x2b, 0x2a, 0x15, 0x05, 0x04, 0x60, 0x2e, 0x2a, 0x15, 0x05, 0x05, 0x60, 0x2e, 0x2d, 0xb8, 0x00, 0xfb, 0x36, 0x06, 0x2c, 0x2a, 0x15, 0x05, 0x04, 0x60, 0x2e, 0x2a, 0x15, 0x05, 0x05, 0x60, 0x2e, 0xb6, 0x00, 0xfd, 0x36, 0x07, 0x2c, 0xb6, 0x00, 0x95, 0x15, 0x06, 0x9f, 0x00, 0x05, 0x03, 0xac, 0x15, 0x06, 0x9a, 0x00, 0x0f, 0x2d, 0x03, 0x2f, 0x15, 0x07]
set_option maxRecDepth 20000 in
theorem agL_32 : ∀ q, agB cL_law ck_32 (2048 + q) q := agB_of 2048 (by decide +kernel)
def tL_32 : List (Nat × Instr × Nat) := [(0, .lconst 0, 1), (1, .lcmp, 1), (2, .ifCond .eq 5, 3), (5, .iconst 0, 1), (6, .ireturn, 1), (7, .goto 902, 3), (10, .aload_n 1, 1), (11, .aload_n 0, 1), (12, .iload 5, 2), (14, .iconst 1, 1), (15, .iadd, 1), (16, .iaload, 1), (17, .aload_n 0, 1), (18, .iload 5, 2), (20, .iconst 2, 1), (21, .iadd, 1), (22, .iaload, 1), (23, .aload_n 3, 1), (24, .invokestatic 251, 3), (27, .istore 6, 2), (29, .aload_n 2, 1), (30, .aload_n 0, 1), (31, .iload 5, 2), (33, .iconst 1, 1), (34, .iadd, 1), (35, .iaload, 1), (36, .aload_n 0, 1), (37, .iload 5, 2), (39, .iconst 2, 1), (40, .iadd, 1), (41, .iaload, 1), (42, .invokevirtual 253, 3), (45, .istore 7, 2), (47, .aload_n 2, 1), (48, .invokevirtual 149, 3), (51, .iload 6, 2), (53, .if_icmp .eq 5, 3), (56, .iconst 0, 1), (57, .ireturn, 1), (58, .iload 6, 2), (60, .ifCond .ne 15, 3), (63, .aload_n 3, 1)]
theorem gL_32 : tL_32.all (fun r => opB ck_32 r.1 && decide (decode ck_32 r.1 = .ok (r.2.1, r.2.2))) = true := by decide +kernel
theorem dL_law_2048 : decode cL_law 2048 = .ok (.lconst 0, 1) := sl_row agL_32 gL_32 (i := 0) (r := (0, .lconst 0, 1)) rfl
theorem dL_law_2049 : decode cL_law 2049 = .ok (.lcmp, 1) := sl_row agL_32 gL_32 (i := 1) (r := (1, .lcmp, 1)) rfl
theorem dL_law_2050 : decode cL_law 2050 = .ok (.ifCond .eq 5, 3) := sl_row agL_32 gL_32 (i := 2) (r := (2, .ifCond .eq 5, 3)) rfl
theorem dL_law_2053 : decode cL_law 2053 = .ok (.iconst 0, 1) := sl_row agL_32 gL_32 (i := 3) (r := (5, .iconst 0, 1)) rfl
theorem dL_law_2054 : decode cL_law 2054 = .ok (.ireturn, 1) := sl_row agL_32 gL_32 (i := 4) (r := (6, .ireturn, 1)) rfl
theorem dL_law_2055 : decode cL_law 2055 = .ok (.goto 902, 3) := sl_row agL_32 gL_32 (i := 5) (r := (7, .goto 902, 3)) rfl
theorem dL_law_2058 : decode cL_law 2058 = .ok (.aload_n 1, 1) := sl_row agL_32 gL_32 (i := 6) (r := (10, .aload_n 1, 1)) rfl
theorem dL_law_2059 : decode cL_law 2059 = .ok (.aload_n 0, 1) := sl_row agL_32 gL_32 (i := 7) (r := (11, .aload_n 0, 1)) rfl
theorem dL_law_2060 : decode cL_law 2060 = .ok (.iload 5, 2) := sl_row agL_32 gL_32 (i := 8) (r := (12, .iload 5, 2)) rfl
theorem dL_law_2062 : decode cL_law 2062 = .ok (.iconst 1, 1) := sl_row agL_32 gL_32 (i := 9) (r := (14, .iconst 1, 1)) rfl
theorem dL_law_2063 : decode cL_law 2063 = .ok (.iadd, 1) := sl_row agL_32 gL_32 (i := 10) (r := (15, .iadd, 1)) rfl
theorem dL_law_2064 : decode cL_law 2064 = .ok (.iaload, 1) := sl_row agL_32 gL_32 (i := 11) (r := (16, .iaload, 1)) rfl
theorem dL_law_2065 : decode cL_law 2065 = .ok (.aload_n 0, 1) := sl_row agL_32 gL_32 (i := 12) (r := (17, .aload_n 0, 1)) rfl
theorem dL_law_2066 : decode cL_law 2066 = .ok (.iload 5, 2) := sl_row agL_32 gL_32 (i := 13) (r := (18, .iload 5, 2)) rfl
theorem dL_law_2068 : decode cL_law 2068 = .ok (.iconst 2, 1) := sl_row agL_32 gL_32 (i := 14) (r := (20, .iconst 2, 1)) rfl
theorem dL_law_2069 : decode cL_law 2069 = .ok (.iadd, 1) := sl_row agL_32 gL_32 (i := 15) (r := (21, .iadd, 1)) rfl
theorem dL_law_2070 : decode cL_law 2070 = .ok (.iaload, 1) := sl_row agL_32 gL_32 (i := 16) (r := (22, .iaload, 1)) rfl
theorem dL_law_2071 : decode cL_law 2071 = .ok (.aload_n 3, 1) := sl_row agL_32 gL_32 (i := 17) (r := (23, .aload_n 3, 1)) rfl
theorem dL_law_2072 : decode cL_law 2072 = .ok (.invokestatic 251, 3) := sl_row agL_32 gL_32 (i := 18) (r := (24, .invokestatic 251, 3)) rfl
theorem dL_law_2075 : decode cL_law 2075 = .ok (.istore 6, 2) := sl_row agL_32 gL_32 (i := 19) (r := (27, .istore 6, 2)) rfl
theorem dL_law_2077 : decode cL_law 2077 = .ok (.aload_n 2, 1) := sl_row agL_32 gL_32 (i := 20) (r := (29, .aload_n 2, 1)) rfl
theorem dL_law_2078 : decode cL_law 2078 = .ok (.aload_n 0, 1) := sl_row agL_32 gL_32 (i := 21) (r := (30, .aload_n 0, 1)) rfl
theorem dL_law_2079 : decode cL_law 2079 = .ok (.iload 5, 2) := sl_row agL_32 gL_32 (i := 22) (r := (31, .iload 5, 2)) rfl
theorem dL_law_2081 : decode cL_law 2081 = .ok (.iconst 1, 1) := sl_row agL_32 gL_32 (i := 23) (r := (33, .iconst 1, 1)) rfl
theorem dL_law_2082 : decode cL_law 2082 = .ok (.iadd, 1) := sl_row agL_32 gL_32 (i := 24) (r := (34, .iadd, 1)) rfl
theorem dL_law_2083 : decode cL_law 2083 = .ok (.iaload, 1) := sl_row agL_32 gL_32 (i := 25) (r := (35, .iaload, 1)) rfl
theorem dL_law_2084 : decode cL_law 2084 = .ok (.aload_n 0, 1) := sl_row agL_32 gL_32 (i := 26) (r := (36, .aload_n 0, 1)) rfl
theorem dL_law_2085 : decode cL_law 2085 = .ok (.iload 5, 2) := sl_row agL_32 gL_32 (i := 27) (r := (37, .iload 5, 2)) rfl
theorem dL_law_2087 : decode cL_law 2087 = .ok (.iconst 2, 1) := sl_row agL_32 gL_32 (i := 28) (r := (39, .iconst 2, 1)) rfl
theorem dL_law_2088 : decode cL_law 2088 = .ok (.iadd, 1) := sl_row agL_32 gL_32 (i := 29) (r := (40, .iadd, 1)) rfl
theorem dL_law_2089 : decode cL_law 2089 = .ok (.iaload, 1) := sl_row agL_32 gL_32 (i := 30) (r := (41, .iaload, 1)) rfl
theorem dL_law_2090 : decode cL_law 2090 = .ok (.invokevirtual 253, 3) := sl_row agL_32 gL_32 (i := 31) (r := (42, .invokevirtual 253, 3)) rfl
theorem dL_law_2093 : decode cL_law 2093 = .ok (.istore 7, 2) := sl_row agL_32 gL_32 (i := 32) (r := (45, .istore 7, 2)) rfl
theorem dL_law_2095 : decode cL_law 2095 = .ok (.aload_n 2, 1) := sl_row agL_32 gL_32 (i := 33) (r := (47, .aload_n 2, 1)) rfl
theorem dL_law_2096 : decode cL_law 2096 = .ok (.invokevirtual 149, 3) := sl_row agL_32 gL_32 (i := 34) (r := (48, .invokevirtual 149, 3)) rfl
theorem dL_law_2099 : decode cL_law 2099 = .ok (.iload 6, 2) := sl_row agL_32 gL_32 (i := 35) (r := (51, .iload 6, 2)) rfl
theorem dL_law_2101 : decode cL_law 2101 = .ok (.if_icmp .eq 5, 3) := sl_row agL_32 gL_32 (i := 36) (r := (53, .if_icmp .eq 5, 3)) rfl
theorem dL_law_2104 : decode cL_law 2104 = .ok (.iconst 0, 1) := sl_row agL_32 gL_32 (i := 37) (r := (56, .iconst 0, 1)) rfl
theorem dL_law_2105 : decode cL_law 2105 = .ok (.ireturn, 1) := sl_row agL_32 gL_32 (i := 38) (r := (57, .ireturn, 1)) rfl
theorem dL_law_2106 : decode cL_law 2106 = .ok (.iload 6, 2) := sl_row agL_32 gL_32 (i := 39) (r := (58, .iload 6, 2)) rfl
theorem dL_law_2108 : decode cL_law 2108 = .ok (.ifCond .ne 15, 3) := sl_row agL_32 gL_32 (i := 40) (r := (60, .ifCond .ne 15, 3)) rfl
theorem dL_law_2111 : decode cL_law 2111 = .ok (.aload_n 3, 1) := sl_row agL_32 gL_32 (i := 41) (r := (63, .aload_n 3, 1)) rfl
def ck_33 : ByteArray := .mk #[0x03, 0x2f, 0x15, 0x07, 0x85, 0x94, 0x99, 0x00, 0x05, 0x03, 0xac, 0xa7, 0x03, 0x42, 0x2b, 0x2a, 0x15, 0x05, 0x04, 0x60, 0x2e, 0x2a, 0x15, 0x05, 0x05, 0x60, 0x2e, 0x2a, 0x15, 0x05, 0x06, 0x60, 0x2e, 0x2a, 0x15, 0x05, 0x07, 0x60, 0x2e, 0x2d, 0xb8, 0x00, 0xfe, 0x36, 0x06, 0x2c, 0x2a, 0x15, 0x05, 0x04, 0x60, 0x2e, 0x2a, 0x15, 0x05, 0x05, 0x60, 0x2e, 0x2a, 0x15, 0x05, 0x06, 0x60, 0x2e, 0x2a, 0x15, 0x05, 0x07]
set_option maxRecDepth 20000 in
theorem agL_33 : ∀ q, agB cL_law ck_33 (2112 + q) q := agB_of 2112 (by decide +kernel)
def tL_33 : List (Nat × Instr × Nat) := [(0, .iconst 0, 1), (1, .laload, 1), (2, .iload 7, 2), (4, .i2l, 1), (5, .lcmp, 1), (6, .ifCond .eq 5, 3), (9, .iconst 0, 1), (10, .ireturn, 1), (11, .goto 834, 3), (14, .aload_n 1, 1), (15, .aload_n 0, 1), (16, .iload 5, 2), (18, .iconst 1, 1), (19, .iadd, 1), (20, .iaload, 1), (21, .aload_n 0, 1), (22, .iload 5, 2), (24, .iconst 2, 1), (25, .iadd, 1), (26, .iaload, 1), (27, .aload_n 0, 1), (28, .iload 5, 2), (30, .iconst 3, 1), (31, .iadd, 1), (32, .iaload, 1), (33, .aload_n 0, 1), (34, .iload 5, 2), (36, .iconst 4, 1), (37, .iadd, 1), (38, .iaload, 1), (39, .aload_n 3, 1), (40, .invokestatic 254, 3), (43, .istore 6, 2), (45, .aload_n 2, 1), (46, .aload_n 0, 1), (47, .iload 5, 2), (49, .iconst 1, 1), (50, .iadd, 1), (51, .iaload, 1), (52, .aload_n 0, 1), (53, .iload 5, 2), (55, .iconst 2, 1), (56, .iadd, 1), (57, .iaload, 1), (58, .aload_n 0, 1), (59, .iload 5, 2), (61, .iconst 3, 1), (62, .iadd, 1), (63, .iaload, 1)]
theorem gL_33 : tL_33.all (fun r => opB ck_33 r.1 && decide (decode ck_33 r.1 = .ok (r.2.1, r.2.2))) = true := by decide +kernel
theorem dL_law_2112 : decode cL_law 2112 = .ok (.iconst 0, 1) := sl_row agL_33 gL_33 (i := 0) (r := (0, .iconst 0, 1)) rfl
theorem dL_law_2113 : decode cL_law 2113 = .ok (.laload, 1) := sl_row agL_33 gL_33 (i := 1) (r := (1, .laload, 1)) rfl
theorem dL_law_2114 : decode cL_law 2114 = .ok (.iload 7, 2) := sl_row agL_33 gL_33 (i := 2) (r := (2, .iload 7, 2)) rfl
theorem dL_law_2116 : decode cL_law 2116 = .ok (.i2l, 1) := sl_row agL_33 gL_33 (i := 3) (r := (4, .i2l, 1)) rfl
theorem dL_law_2117 : decode cL_law 2117 = .ok (.lcmp, 1) := sl_row agL_33 gL_33 (i := 4) (r := (5, .lcmp, 1)) rfl
theorem dL_law_2118 : decode cL_law 2118 = .ok (.ifCond .eq 5, 3) := sl_row agL_33 gL_33 (i := 5) (r := (6, .ifCond .eq 5, 3)) rfl
theorem dL_law_2121 : decode cL_law 2121 = .ok (.iconst 0, 1) := sl_row agL_33 gL_33 (i := 6) (r := (9, .iconst 0, 1)) rfl
theorem dL_law_2122 : decode cL_law 2122 = .ok (.ireturn, 1) := sl_row agL_33 gL_33 (i := 7) (r := (10, .ireturn, 1)) rfl
theorem dL_law_2123 : decode cL_law 2123 = .ok (.goto 834, 3) := sl_row agL_33 gL_33 (i := 8) (r := (11, .goto 834, 3)) rfl
theorem dL_law_2126 : decode cL_law 2126 = .ok (.aload_n 1, 1) := sl_row agL_33 gL_33 (i := 9) (r := (14, .aload_n 1, 1)) rfl
theorem dL_law_2127 : decode cL_law 2127 = .ok (.aload_n 0, 1) := sl_row agL_33 gL_33 (i := 10) (r := (15, .aload_n 0, 1)) rfl
theorem dL_law_2128 : decode cL_law 2128 = .ok (.iload 5, 2) := sl_row agL_33 gL_33 (i := 11) (r := (16, .iload 5, 2)) rfl
theorem dL_law_2130 : decode cL_law 2130 = .ok (.iconst 1, 1) := sl_row agL_33 gL_33 (i := 12) (r := (18, .iconst 1, 1)) rfl
theorem dL_law_2131 : decode cL_law 2131 = .ok (.iadd, 1) := sl_row agL_33 gL_33 (i := 13) (r := (19, .iadd, 1)) rfl
theorem dL_law_2132 : decode cL_law 2132 = .ok (.iaload, 1) := sl_row agL_33 gL_33 (i := 14) (r := (20, .iaload, 1)) rfl
theorem dL_law_2133 : decode cL_law 2133 = .ok (.aload_n 0, 1) := sl_row agL_33 gL_33 (i := 15) (r := (21, .aload_n 0, 1)) rfl
theorem dL_law_2134 : decode cL_law 2134 = .ok (.iload 5, 2) := sl_row agL_33 gL_33 (i := 16) (r := (22, .iload 5, 2)) rfl
theorem dL_law_2136 : decode cL_law 2136 = .ok (.iconst 2, 1) := sl_row agL_33 gL_33 (i := 17) (r := (24, .iconst 2, 1)) rfl
theorem dL_law_2137 : decode cL_law 2137 = .ok (.iadd, 1) := sl_row agL_33 gL_33 (i := 18) (r := (25, .iadd, 1)) rfl
theorem dL_law_2138 : decode cL_law 2138 = .ok (.iaload, 1) := sl_row agL_33 gL_33 (i := 19) (r := (26, .iaload, 1)) rfl
theorem dL_law_2139 : decode cL_law 2139 = .ok (.aload_n 0, 1) := sl_row agL_33 gL_33 (i := 20) (r := (27, .aload_n 0, 1)) rfl
theorem dL_law_2140 : decode cL_law 2140 = .ok (.iload 5, 2) := sl_row agL_33 gL_33 (i := 21) (r := (28, .iload 5, 2)) rfl
theorem dL_law_2142 : decode cL_law 2142 = .ok (.iconst 3, 1) := sl_row agL_33 gL_33 (i := 22) (r := (30, .iconst 3, 1)) rfl
theorem dL_law_2143 : decode cL_law 2143 = .ok (.iadd, 1) := sl_row agL_33 gL_33 (i := 23) (r := (31, .iadd, 1)) rfl
theorem dL_law_2144 : decode cL_law 2144 = .ok (.iaload, 1) := sl_row agL_33 gL_33 (i := 24) (r := (32, .iaload, 1)) rfl
theorem dL_law_2145 : decode cL_law 2145 = .ok (.aload_n 0, 1) := sl_row agL_33 gL_33 (i := 25) (r := (33, .aload_n 0, 1)) rfl
theorem dL_law_2146 : decode cL_law 2146 = .ok (.iload 5, 2) := sl_row agL_33 gL_33 (i := 26) (r := (34, .iload 5, 2)) rfl
theorem dL_law_2148 : decode cL_law 2148 = .ok (.iconst 4, 1) := sl_row agL_33 gL_33 (i := 27) (r := (36, .iconst 4, 1)) rfl
theorem dL_law_2149 : decode cL_law 2149 = .ok (.iadd, 1) := sl_row agL_33 gL_33 (i := 28) (r := (37, .iadd, 1)) rfl
theorem dL_law_2150 : decode cL_law 2150 = .ok (.iaload, 1) := sl_row agL_33 gL_33 (i := 29) (r := (38, .iaload, 1)) rfl
theorem dL_law_2151 : decode cL_law 2151 = .ok (.aload_n 3, 1) := sl_row agL_33 gL_33 (i := 30) (r := (39, .aload_n 3, 1)) rfl
theorem dL_law_2152 : decode cL_law 2152 = .ok (.invokestatic 254, 3) := sl_row agL_33 gL_33 (i := 31) (r := (40, .invokestatic 254, 3)) rfl
theorem dL_law_2155 : decode cL_law 2155 = .ok (.istore 6, 2) := sl_row agL_33 gL_33 (i := 32) (r := (43, .istore 6, 2)) rfl
theorem dL_law_2157 : decode cL_law 2157 = .ok (.aload_n 2, 1) := sl_row agL_33 gL_33 (i := 33) (r := (45, .aload_n 2, 1)) rfl
theorem dL_law_2158 : decode cL_law 2158 = .ok (.aload_n 0, 1) := sl_row agL_33 gL_33 (i := 34) (r := (46, .aload_n 0, 1)) rfl
theorem dL_law_2159 : decode cL_law 2159 = .ok (.iload 5, 2) := sl_row agL_33 gL_33 (i := 35) (r := (47, .iload 5, 2)) rfl
theorem dL_law_2161 : decode cL_law 2161 = .ok (.iconst 1, 1) := sl_row agL_33 gL_33 (i := 36) (r := (49, .iconst 1, 1)) rfl
theorem dL_law_2162 : decode cL_law 2162 = .ok (.iadd, 1) := sl_row agL_33 gL_33 (i := 37) (r := (50, .iadd, 1)) rfl
theorem dL_law_2163 : decode cL_law 2163 = .ok (.iaload, 1) := sl_row agL_33 gL_33 (i := 38) (r := (51, .iaload, 1)) rfl
theorem dL_law_2164 : decode cL_law 2164 = .ok (.aload_n 0, 1) := sl_row agL_33 gL_33 (i := 39) (r := (52, .aload_n 0, 1)) rfl
theorem dL_law_2165 : decode cL_law 2165 = .ok (.iload 5, 2) := sl_row agL_33 gL_33 (i := 40) (r := (53, .iload 5, 2)) rfl
theorem dL_law_2167 : decode cL_law 2167 = .ok (.iconst 2, 1) := sl_row agL_33 gL_33 (i := 41) (r := (55, .iconst 2, 1)) rfl
theorem dL_law_2168 : decode cL_law 2168 = .ok (.iadd, 1) := sl_row agL_33 gL_33 (i := 42) (r := (56, .iadd, 1)) rfl
theorem dL_law_2169 : decode cL_law 2169 = .ok (.iaload, 1) := sl_row agL_33 gL_33 (i := 43) (r := (57, .iaload, 1)) rfl
theorem dL_law_2170 : decode cL_law 2170 = .ok (.aload_n 0, 1) := sl_row agL_33 gL_33 (i := 44) (r := (58, .aload_n 0, 1)) rfl
theorem dL_law_2171 : decode cL_law 2171 = .ok (.iload 5, 2) := sl_row agL_33 gL_33 (i := 45) (r := (59, .iload 5, 2)) rfl
theorem dL_law_2173 : decode cL_law 2173 = .ok (.iconst 3, 1) := sl_row agL_33 gL_33 (i := 46) (r := (61, .iconst 3, 1)) rfl
theorem dL_law_2174 : decode cL_law 2174 = .ok (.iadd, 1) := sl_row agL_33 gL_33 (i := 47) (r := (62, .iadd, 1)) rfl
theorem dL_law_2175 : decode cL_law 2175 = .ok (.iaload, 1) := sl_row agL_33 gL_33 (i := 48) (r := (63, .iaload, 1)) rfl
def ck_34 : ByteArray := .mk #[0x2a, 0x15, 0x05, 0x07, 0x60, 0x2e, 0xb6, 0x01, 0x01, 0x36, 0x07, 0x2c, 0xb6, 0x00, 0x95, 0x15, 0x06, 0x9f, 0x00, 0x05, 0x03, 0xac, 0x15, 0x06, 0x9a, 0x00, 0x0f, 0x2d, 0x03, 0x2f, 0x15, 0x07, 0x85, 0x94, 0x99, 0x00, 0x05, 0x03, 0xac, 0xa7, 0x02, 0xe6, 0x2b, 0xb6, 0x01, 0x02, 0x2c, 0xb6, 0x01, 0x05, 0x9f, 0x02, 0xdb, 0x03, 0xac, 0x2b, 0x2a, 0x15, 0x05, 0x04, 0x60, 0x2e, 0x2a, 0x15, 0x05, 0x05, 0x60, 0x2e]
set_option maxRecDepth 20000 in
theorem agL_34 : ∀ q, agB cL_law ck_34 (2176 + q) q := agB_of 2176 (by decide +kernel)
def tL_34 : List (Nat × Instr × Nat) := [(0, .aload_n 0, 1), (1, .iload 5, 2), (3, .iconst 4, 1), (4, .iadd, 1), (5, .iaload, 1), (6, .invokevirtual 257, 3), (9, .istore 7, 2), (11, .aload_n 2, 1), (12, .invokevirtual 149, 3), (15, .iload 6, 2), (17, .if_icmp .eq 5, 3), (20, .iconst 0, 1), (21, .ireturn, 1), (22, .iload 6, 2), (24, .ifCond .ne 15, 3), (27, .aload_n 3, 1), (28, .iconst 0, 1), (29, .laload, 1), (30, .iload 7, 2), (32, .i2l, 1), (33, .lcmp, 1), (34, .ifCond .eq 5, 3), (37, .iconst 0, 1), (38, .ireturn, 1), (39, .goto 742, 3), (42, .aload_n 1, 1), (43, .invokevirtual 258, 3), (46, .aload_n 2, 1), (47, .invokevirtual 261, 3), (50, .if_icmp .eq 731, 3), (53, .iconst 0, 1), (54, .ireturn, 1), (55, .aload_n 1, 1), (56, .aload_n 0, 1), (57, .iload 5, 2), (59, .iconst 1, 1), (60, .iadd, 1), (61, .iaload, 1), (62, .aload_n 0, 1), (63, .iload 5, 2)]
theorem gL_34 : tL_34.all (fun r => opB ck_34 r.1 && decide (decode ck_34 r.1 = .ok (r.2.1, r.2.2))) = true := by decide +kernel
theorem dL_law_2176 : decode cL_law 2176 = .ok (.aload_n 0, 1) := sl_row agL_34 gL_34 (i := 0) (r := (0, .aload_n 0, 1)) rfl
theorem dL_law_2177 : decode cL_law 2177 = .ok (.iload 5, 2) := sl_row agL_34 gL_34 (i := 1) (r := (1, .iload 5, 2)) rfl
theorem dL_law_2179 : decode cL_law 2179 = .ok (.iconst 4, 1) := sl_row agL_34 gL_34 (i := 2) (r := (3, .iconst 4, 1)) rfl
theorem dL_law_2180 : decode cL_law 2180 = .ok (.iadd, 1) := sl_row agL_34 gL_34 (i := 3) (r := (4, .iadd, 1)) rfl
theorem dL_law_2181 : decode cL_law 2181 = .ok (.iaload, 1) := sl_row agL_34 gL_34 (i := 4) (r := (5, .iaload, 1)) rfl
theorem dL_law_2182 : decode cL_law 2182 = .ok (.invokevirtual 257, 3) := sl_row agL_34 gL_34 (i := 5) (r := (6, .invokevirtual 257, 3)) rfl
theorem dL_law_2185 : decode cL_law 2185 = .ok (.istore 7, 2) := sl_row agL_34 gL_34 (i := 6) (r := (9, .istore 7, 2)) rfl
theorem dL_law_2187 : decode cL_law 2187 = .ok (.aload_n 2, 1) := sl_row agL_34 gL_34 (i := 7) (r := (11, .aload_n 2, 1)) rfl
theorem dL_law_2188 : decode cL_law 2188 = .ok (.invokevirtual 149, 3) := sl_row agL_34 gL_34 (i := 8) (r := (12, .invokevirtual 149, 3)) rfl
theorem dL_law_2191 : decode cL_law 2191 = .ok (.iload 6, 2) := sl_row agL_34 gL_34 (i := 9) (r := (15, .iload 6, 2)) rfl
theorem dL_law_2193 : decode cL_law 2193 = .ok (.if_icmp .eq 5, 3) := sl_row agL_34 gL_34 (i := 10) (r := (17, .if_icmp .eq 5, 3)) rfl
theorem dL_law_2196 : decode cL_law 2196 = .ok (.iconst 0, 1) := sl_row agL_34 gL_34 (i := 11) (r := (20, .iconst 0, 1)) rfl
theorem dL_law_2197 : decode cL_law 2197 = .ok (.ireturn, 1) := sl_row agL_34 gL_34 (i := 12) (r := (21, .ireturn, 1)) rfl
theorem dL_law_2198 : decode cL_law 2198 = .ok (.iload 6, 2) := sl_row agL_34 gL_34 (i := 13) (r := (22, .iload 6, 2)) rfl
theorem dL_law_2200 : decode cL_law 2200 = .ok (.ifCond .ne 15, 3) := sl_row agL_34 gL_34 (i := 14) (r := (24, .ifCond .ne 15, 3)) rfl
theorem dL_law_2203 : decode cL_law 2203 = .ok (.aload_n 3, 1) := sl_row agL_34 gL_34 (i := 15) (r := (27, .aload_n 3, 1)) rfl
theorem dL_law_2204 : decode cL_law 2204 = .ok (.iconst 0, 1) := sl_row agL_34 gL_34 (i := 16) (r := (28, .iconst 0, 1)) rfl
theorem dL_law_2205 : decode cL_law 2205 = .ok (.laload, 1) := sl_row agL_34 gL_34 (i := 17) (r := (29, .laload, 1)) rfl
theorem dL_law_2206 : decode cL_law 2206 = .ok (.iload 7, 2) := sl_row agL_34 gL_34 (i := 18) (r := (30, .iload 7, 2)) rfl
theorem dL_law_2208 : decode cL_law 2208 = .ok (.i2l, 1) := sl_row agL_34 gL_34 (i := 19) (r := (32, .i2l, 1)) rfl
theorem dL_law_2209 : decode cL_law 2209 = .ok (.lcmp, 1) := sl_row agL_34 gL_34 (i := 20) (r := (33, .lcmp, 1)) rfl
theorem dL_law_2210 : decode cL_law 2210 = .ok (.ifCond .eq 5, 3) := sl_row agL_34 gL_34 (i := 21) (r := (34, .ifCond .eq 5, 3)) rfl
theorem dL_law_2213 : decode cL_law 2213 = .ok (.iconst 0, 1) := sl_row agL_34 gL_34 (i := 22) (r := (37, .iconst 0, 1)) rfl
theorem dL_law_2214 : decode cL_law 2214 = .ok (.ireturn, 1) := sl_row agL_34 gL_34 (i := 23) (r := (38, .ireturn, 1)) rfl
theorem dL_law_2215 : decode cL_law 2215 = .ok (.goto 742, 3) := sl_row agL_34 gL_34 (i := 24) (r := (39, .goto 742, 3)) rfl
theorem dL_law_2218 : decode cL_law 2218 = .ok (.aload_n 1, 1) := sl_row agL_34 gL_34 (i := 25) (r := (42, .aload_n 1, 1)) rfl
theorem dL_law_2219 : decode cL_law 2219 = .ok (.invokevirtual 258, 3) := sl_row agL_34 gL_34 (i := 26) (r := (43, .invokevirtual 258, 3)) rfl
theorem dL_law_2222 : decode cL_law 2222 = .ok (.aload_n 2, 1) := sl_row agL_34 gL_34 (i := 27) (r := (46, .aload_n 2, 1)) rfl
theorem dL_law_2223 : decode cL_law 2223 = .ok (.invokevirtual 261, 3) := sl_row agL_34 gL_34 (i := 28) (r := (47, .invokevirtual 261, 3)) rfl
theorem dL_law_2226 : decode cL_law 2226 = .ok (.if_icmp .eq 731, 3) := sl_row agL_34 gL_34 (i := 29) (r := (50, .if_icmp .eq 731, 3)) rfl
theorem dL_law_2229 : decode cL_law 2229 = .ok (.iconst 0, 1) := sl_row agL_34 gL_34 (i := 30) (r := (53, .iconst 0, 1)) rfl
theorem dL_law_2230 : decode cL_law 2230 = .ok (.ireturn, 1) := sl_row agL_34 gL_34 (i := 31) (r := (54, .ireturn, 1)) rfl
theorem dL_law_2231 : decode cL_law 2231 = .ok (.aload_n 1, 1) := sl_row agL_34 gL_34 (i := 32) (r := (55, .aload_n 1, 1)) rfl
theorem dL_law_2232 : decode cL_law 2232 = .ok (.aload_n 0, 1) := sl_row agL_34 gL_34 (i := 33) (r := (56, .aload_n 0, 1)) rfl
theorem dL_law_2233 : decode cL_law 2233 = .ok (.iload 5, 2) := sl_row agL_34 gL_34 (i := 34) (r := (57, .iload 5, 2)) rfl
theorem dL_law_2235 : decode cL_law 2235 = .ok (.iconst 1, 1) := sl_row agL_34 gL_34 (i := 35) (r := (59, .iconst 1, 1)) rfl
theorem dL_law_2236 : decode cL_law 2236 = .ok (.iadd, 1) := sl_row agL_34 gL_34 (i := 36) (r := (60, .iadd, 1)) rfl
theorem dL_law_2237 : decode cL_law 2237 = .ok (.iaload, 1) := sl_row agL_34 gL_34 (i := 37) (r := (61, .iaload, 1)) rfl
theorem dL_law_2238 : decode cL_law 2238 = .ok (.aload_n 0, 1) := sl_row agL_34 gL_34 (i := 38) (r := (62, .aload_n 0, 1)) rfl
theorem dL_law_2239 : decode cL_law 2239 = .ok (.iload 5, 2) := sl_row agL_34 gL_34 (i := 39) (r := (63, .iload 5, 2)) rfl
def ck_35 : ByteArray := .mk #[0x05, 0x05, 0x60, 0x2e, 0x2d, 0xb8, 0x01, 0x06, 0x36, 0x06, 0x2c, 0x2a, 0x15, 0x05, 0x04, 0x60, 0x2e, 0x2a, 0x15, 0x05, 0x05, 0x60, 0x2e, 0xb6, 0x01, 0x08, 0x36, 0x07, 0x2c, 0xb6, 0x00, 0x95, 0x15, 0x06, 0x9f, 0x00, 0x05, 0x03, 0xac, 0x15, 0x06, 0x9a, 0x00, 0x16, 0x2d, 0x03, 0x2f, 0x15, 0x07, 0x99, 0x00, 0x07, 0x0a, 0xa7, 0x00, 0x04, 0x09, 0x94, 0x99, 0x00, 0x05, 0x03, 0xac, 0xa7, 0x02, 0x8e, 0x2b, 0xb6]
set_option maxRecDepth 20000 in
theorem agL_35 : ∀ q, agB cL_law ck_35 (2240 + q) q := agB_of 2240 (by decide +kernel)
def tL_35 : List (Nat × Instr × Nat) := [(1, .iconst 2, 1), (2, .iadd, 1), (3, .iaload, 1), (4, .aload_n 3, 1), (5, .invokestatic 262, 3), (8, .istore 6, 2), (10, .aload_n 2, 1), (11, .aload_n 0, 1), (12, .iload 5, 2), (14, .iconst 1, 1), (15, .iadd, 1), (16, .iaload, 1), (17, .aload_n 0, 1), (18, .iload 5, 2), (20, .iconst 2, 1), (21, .iadd, 1), (22, .iaload, 1), (23, .invokevirtual 264, 3), (26, .istore 7, 2), (28, .aload_n 2, 1), (29, .invokevirtual 149, 3), (32, .iload 6, 2), (34, .if_icmp .eq 5, 3), (37, .iconst 0, 1), (38, .ireturn, 1), (39, .iload 6, 2), (41, .ifCond .ne 22, 3), (44, .aload_n 3, 1), (45, .iconst 0, 1), (46, .laload, 1), (47, .iload 7, 2), (49, .ifCond .eq 7, 3), (52, .lconst 1, 1), (53, .goto 4, 3), (56, .lconst 0, 1), (57, .lcmp, 1), (58, .ifCond .eq 5, 3), (61, .iconst 0, 1), (62, .ireturn, 1), (63, .goto 654, 3)]
theorem gL_35 : tL_35.all (fun r => opB ck_35 r.1 && decide (decode ck_35 r.1 = .ok (r.2.1, r.2.2))) = true := by decide +kernel
theorem dL_law_2241 : decode cL_law 2241 = .ok (.iconst 2, 1) := sl_row agL_35 gL_35 (i := 0) (r := (1, .iconst 2, 1)) rfl
theorem dL_law_2242 : decode cL_law 2242 = .ok (.iadd, 1) := sl_row agL_35 gL_35 (i := 1) (r := (2, .iadd, 1)) rfl
theorem dL_law_2243 : decode cL_law 2243 = .ok (.iaload, 1) := sl_row agL_35 gL_35 (i := 2) (r := (3, .iaload, 1)) rfl
theorem dL_law_2244 : decode cL_law 2244 = .ok (.aload_n 3, 1) := sl_row agL_35 gL_35 (i := 3) (r := (4, .aload_n 3, 1)) rfl
theorem dL_law_2245 : decode cL_law 2245 = .ok (.invokestatic 262, 3) := sl_row agL_35 gL_35 (i := 4) (r := (5, .invokestatic 262, 3)) rfl
theorem dL_law_2248 : decode cL_law 2248 = .ok (.istore 6, 2) := sl_row agL_35 gL_35 (i := 5) (r := (8, .istore 6, 2)) rfl
theorem dL_law_2250 : decode cL_law 2250 = .ok (.aload_n 2, 1) := sl_row agL_35 gL_35 (i := 6) (r := (10, .aload_n 2, 1)) rfl
theorem dL_law_2251 : decode cL_law 2251 = .ok (.aload_n 0, 1) := sl_row agL_35 gL_35 (i := 7) (r := (11, .aload_n 0, 1)) rfl
theorem dL_law_2252 : decode cL_law 2252 = .ok (.iload 5, 2) := sl_row agL_35 gL_35 (i := 8) (r := (12, .iload 5, 2)) rfl
theorem dL_law_2254 : decode cL_law 2254 = .ok (.iconst 1, 1) := sl_row agL_35 gL_35 (i := 9) (r := (14, .iconst 1, 1)) rfl
theorem dL_law_2255 : decode cL_law 2255 = .ok (.iadd, 1) := sl_row agL_35 gL_35 (i := 10) (r := (15, .iadd, 1)) rfl
theorem dL_law_2256 : decode cL_law 2256 = .ok (.iaload, 1) := sl_row agL_35 gL_35 (i := 11) (r := (16, .iaload, 1)) rfl
theorem dL_law_2257 : decode cL_law 2257 = .ok (.aload_n 0, 1) := sl_row agL_35 gL_35 (i := 12) (r := (17, .aload_n 0, 1)) rfl
theorem dL_law_2258 : decode cL_law 2258 = .ok (.iload 5, 2) := sl_row agL_35 gL_35 (i := 13) (r := (18, .iload 5, 2)) rfl
theorem dL_law_2260 : decode cL_law 2260 = .ok (.iconst 2, 1) := sl_row agL_35 gL_35 (i := 14) (r := (20, .iconst 2, 1)) rfl
theorem dL_law_2261 : decode cL_law 2261 = .ok (.iadd, 1) := sl_row agL_35 gL_35 (i := 15) (r := (21, .iadd, 1)) rfl
theorem dL_law_2262 : decode cL_law 2262 = .ok (.iaload, 1) := sl_row agL_35 gL_35 (i := 16) (r := (22, .iaload, 1)) rfl
theorem dL_law_2263 : decode cL_law 2263 = .ok (.invokevirtual 264, 3) := sl_row agL_35 gL_35 (i := 17) (r := (23, .invokevirtual 264, 3)) rfl
theorem dL_law_2266 : decode cL_law 2266 = .ok (.istore 7, 2) := sl_row agL_35 gL_35 (i := 18) (r := (26, .istore 7, 2)) rfl
theorem dL_law_2268 : decode cL_law 2268 = .ok (.aload_n 2, 1) := sl_row agL_35 gL_35 (i := 19) (r := (28, .aload_n 2, 1)) rfl
theorem dL_law_2269 : decode cL_law 2269 = .ok (.invokevirtual 149, 3) := sl_row agL_35 gL_35 (i := 20) (r := (29, .invokevirtual 149, 3)) rfl
theorem dL_law_2272 : decode cL_law 2272 = .ok (.iload 6, 2) := sl_row agL_35 gL_35 (i := 21) (r := (32, .iload 6, 2)) rfl
theorem dL_law_2274 : decode cL_law 2274 = .ok (.if_icmp .eq 5, 3) := sl_row agL_35 gL_35 (i := 22) (r := (34, .if_icmp .eq 5, 3)) rfl
theorem dL_law_2277 : decode cL_law 2277 = .ok (.iconst 0, 1) := sl_row agL_35 gL_35 (i := 23) (r := (37, .iconst 0, 1)) rfl
theorem dL_law_2278 : decode cL_law 2278 = .ok (.ireturn, 1) := sl_row agL_35 gL_35 (i := 24) (r := (38, .ireturn, 1)) rfl
theorem dL_law_2279 : decode cL_law 2279 = .ok (.iload 6, 2) := sl_row agL_35 gL_35 (i := 25) (r := (39, .iload 6, 2)) rfl
theorem dL_law_2281 : decode cL_law 2281 = .ok (.ifCond .ne 22, 3) := sl_row agL_35 gL_35 (i := 26) (r := (41, .ifCond .ne 22, 3)) rfl
theorem dL_law_2284 : decode cL_law 2284 = .ok (.aload_n 3, 1) := sl_row agL_35 gL_35 (i := 27) (r := (44, .aload_n 3, 1)) rfl
theorem dL_law_2285 : decode cL_law 2285 = .ok (.iconst 0, 1) := sl_row agL_35 gL_35 (i := 28) (r := (45, .iconst 0, 1)) rfl
theorem dL_law_2286 : decode cL_law 2286 = .ok (.laload, 1) := sl_row agL_35 gL_35 (i := 29) (r := (46, .laload, 1)) rfl
theorem dL_law_2287 : decode cL_law 2287 = .ok (.iload 7, 2) := sl_row agL_35 gL_35 (i := 30) (r := (47, .iload 7, 2)) rfl
theorem dL_law_2289 : decode cL_law 2289 = .ok (.ifCond .eq 7, 3) := sl_row agL_35 gL_35 (i := 31) (r := (49, .ifCond .eq 7, 3)) rfl
theorem dL_law_2292 : decode cL_law 2292 = .ok (.lconst 1, 1) := sl_row agL_35 gL_35 (i := 32) (r := (52, .lconst 1, 1)) rfl
theorem dL_law_2293 : decode cL_law 2293 = .ok (.goto 4, 3) := sl_row agL_35 gL_35 (i := 33) (r := (53, .goto 4, 3)) rfl
theorem dL_law_2296 : decode cL_law 2296 = .ok (.lconst 0, 1) := sl_row agL_35 gL_35 (i := 34) (r := (56, .lconst 0, 1)) rfl
theorem dL_law_2297 : decode cL_law 2297 = .ok (.lcmp, 1) := sl_row agL_35 gL_35 (i := 35) (r := (57, .lcmp, 1)) rfl
theorem dL_law_2298 : decode cL_law 2298 = .ok (.ifCond .eq 5, 3) := sl_row agL_35 gL_35 (i := 36) (r := (58, .ifCond .eq 5, 3)) rfl
theorem dL_law_2301 : decode cL_law 2301 = .ok (.iconst 0, 1) := sl_row agL_35 gL_35 (i := 37) (r := (61, .iconst 0, 1)) rfl
theorem dL_law_2302 : decode cL_law 2302 = .ok (.ireturn, 1) := sl_row agL_35 gL_35 (i := 38) (r := (62, .ireturn, 1)) rfl
theorem dL_law_2303 : decode cL_law 2303 = .ok (.goto 654, 3) := sl_row agL_35 gL_35 (i := 39) (r := (63, .goto 654, 3)) rfl
def ck_36 : ByteArray := .mk #[0x02, 0x8e, 0x2b, 0xb6, 0x01, 0x09, 0x2c, 0xb6, 0x01, 0x0c, 0x9f, 0x02, 0x83, 0x03, 0xac, 0x2b, 0x2a, 0x15, 0x05, 0x04, 0x60, 0x2e, 0x2d, 0xb8, 0x01, 0x0d, 0x36, 0x06, 0x2c, 0x2a, 0x15, 0x05, 0x04, 0x60, 0x2e, 0xb6, 0x01, 0x0f, 0x36, 0x07, 0x2c, 0xb6, 0x00, 0x95, 0x15, 0x06, 0x9f, 0x00, 0x05, 0x03, 0xac, 0x15, 0x06, 0x9a, 0x00, 0x0f, 0x2d, 0x03, 0x2f, 0x15, 0x07, 0x85, 0x94, 0x99, 0x00, 0x05, 0x03, 0xac]
set_option maxRecDepth 20000 in
theorem agL_36 : ∀ q, agB cL_law ck_36 (2304 + q) q := agB_of 2304 (by decide +kernel)
def tL_36 : List (Nat × Instr × Nat) := [(2, .aload_n 1, 1), (3, .invokevirtual 265, 3), (6, .aload_n 2, 1), (7, .invokevirtual 268, 3), (10, .if_icmp .eq 643, 3), (13, .iconst 0, 1), (14, .ireturn, 1), (15, .aload_n 1, 1), (16, .aload_n 0, 1), (17, .iload 5, 2), (19, .iconst 1, 1), (20, .iadd, 1), (21, .iaload, 1), (22, .aload_n 3, 1), (23, .invokestatic 269, 3), (26, .istore 6, 2), (28, .aload_n 2, 1), (29, .aload_n 0, 1), (30, .iload 5, 2), (32, .iconst 1, 1), (33, .iadd, 1), (34, .iaload, 1), (35, .invokevirtual 271, 3), (38, .istore 7, 2), (40, .aload_n 2, 1), (41, .invokevirtual 149, 3), (44, .iload 6, 2), (46, .if_icmp .eq 5, 3), (49, .iconst 0, 1), (50, .ireturn, 1), (51, .iload 6, 2), (53, .ifCond .ne 15, 3), (56, .aload_n 3, 1), (57, .iconst 0, 1), (58, .laload, 1), (59, .iload 7, 2), (61, .i2l, 1), (62, .lcmp, 1), (63, .ifCond .eq 5, 3)]
theorem gL_36 : tL_36.all (fun r => opB ck_36 r.1 && decide (decode ck_36 r.1 = .ok (r.2.1, r.2.2))) = true := by decide +kernel
theorem dL_law_2306 : decode cL_law 2306 = .ok (.aload_n 1, 1) := sl_row agL_36 gL_36 (i := 0) (r := (2, .aload_n 1, 1)) rfl
theorem dL_law_2307 : decode cL_law 2307 = .ok (.invokevirtual 265, 3) := sl_row agL_36 gL_36 (i := 1) (r := (3, .invokevirtual 265, 3)) rfl
theorem dL_law_2310 : decode cL_law 2310 = .ok (.aload_n 2, 1) := sl_row agL_36 gL_36 (i := 2) (r := (6, .aload_n 2, 1)) rfl
theorem dL_law_2311 : decode cL_law 2311 = .ok (.invokevirtual 268, 3) := sl_row agL_36 gL_36 (i := 3) (r := (7, .invokevirtual 268, 3)) rfl
theorem dL_law_2314 : decode cL_law 2314 = .ok (.if_icmp .eq 643, 3) := sl_row agL_36 gL_36 (i := 4) (r := (10, .if_icmp .eq 643, 3)) rfl
theorem dL_law_2317 : decode cL_law 2317 = .ok (.iconst 0, 1) := sl_row agL_36 gL_36 (i := 5) (r := (13, .iconst 0, 1)) rfl
theorem dL_law_2318 : decode cL_law 2318 = .ok (.ireturn, 1) := sl_row agL_36 gL_36 (i := 6) (r := (14, .ireturn, 1)) rfl
theorem dL_law_2319 : decode cL_law 2319 = .ok (.aload_n 1, 1) := sl_row agL_36 gL_36 (i := 7) (r := (15, .aload_n 1, 1)) rfl
theorem dL_law_2320 : decode cL_law 2320 = .ok (.aload_n 0, 1) := sl_row agL_36 gL_36 (i := 8) (r := (16, .aload_n 0, 1)) rfl
theorem dL_law_2321 : decode cL_law 2321 = .ok (.iload 5, 2) := sl_row agL_36 gL_36 (i := 9) (r := (17, .iload 5, 2)) rfl
theorem dL_law_2323 : decode cL_law 2323 = .ok (.iconst 1, 1) := sl_row agL_36 gL_36 (i := 10) (r := (19, .iconst 1, 1)) rfl
theorem dL_law_2324 : decode cL_law 2324 = .ok (.iadd, 1) := sl_row agL_36 gL_36 (i := 11) (r := (20, .iadd, 1)) rfl
theorem dL_law_2325 : decode cL_law 2325 = .ok (.iaload, 1) := sl_row agL_36 gL_36 (i := 12) (r := (21, .iaload, 1)) rfl
theorem dL_law_2326 : decode cL_law 2326 = .ok (.aload_n 3, 1) := sl_row agL_36 gL_36 (i := 13) (r := (22, .aload_n 3, 1)) rfl
theorem dL_law_2327 : decode cL_law 2327 = .ok (.invokestatic 269, 3) := sl_row agL_36 gL_36 (i := 14) (r := (23, .invokestatic 269, 3)) rfl
theorem dL_law_2330 : decode cL_law 2330 = .ok (.istore 6, 2) := sl_row agL_36 gL_36 (i := 15) (r := (26, .istore 6, 2)) rfl
theorem dL_law_2332 : decode cL_law 2332 = .ok (.aload_n 2, 1) := sl_row agL_36 gL_36 (i := 16) (r := (28, .aload_n 2, 1)) rfl
theorem dL_law_2333 : decode cL_law 2333 = .ok (.aload_n 0, 1) := sl_row agL_36 gL_36 (i := 17) (r := (29, .aload_n 0, 1)) rfl
theorem dL_law_2334 : decode cL_law 2334 = .ok (.iload 5, 2) := sl_row agL_36 gL_36 (i := 18) (r := (30, .iload 5, 2)) rfl
theorem dL_law_2336 : decode cL_law 2336 = .ok (.iconst 1, 1) := sl_row agL_36 gL_36 (i := 19) (r := (32, .iconst 1, 1)) rfl
theorem dL_law_2337 : decode cL_law 2337 = .ok (.iadd, 1) := sl_row agL_36 gL_36 (i := 20) (r := (33, .iadd, 1)) rfl
theorem dL_law_2338 : decode cL_law 2338 = .ok (.iaload, 1) := sl_row agL_36 gL_36 (i := 21) (r := (34, .iaload, 1)) rfl
theorem dL_law_2339 : decode cL_law 2339 = .ok (.invokevirtual 271, 3) := sl_row agL_36 gL_36 (i := 22) (r := (35, .invokevirtual 271, 3)) rfl
theorem dL_law_2342 : decode cL_law 2342 = .ok (.istore 7, 2) := sl_row agL_36 gL_36 (i := 23) (r := (38, .istore 7, 2)) rfl
theorem dL_law_2344 : decode cL_law 2344 = .ok (.aload_n 2, 1) := sl_row agL_36 gL_36 (i := 24) (r := (40, .aload_n 2, 1)) rfl
theorem dL_law_2345 : decode cL_law 2345 = .ok (.invokevirtual 149, 3) := sl_row agL_36 gL_36 (i := 25) (r := (41, .invokevirtual 149, 3)) rfl
theorem dL_law_2348 : decode cL_law 2348 = .ok (.iload 6, 2) := sl_row agL_36 gL_36 (i := 26) (r := (44, .iload 6, 2)) rfl
theorem dL_law_2350 : decode cL_law 2350 = .ok (.if_icmp .eq 5, 3) := sl_row agL_36 gL_36 (i := 27) (r := (46, .if_icmp .eq 5, 3)) rfl
theorem dL_law_2353 : decode cL_law 2353 = .ok (.iconst 0, 1) := sl_row agL_36 gL_36 (i := 28) (r := (49, .iconst 0, 1)) rfl
theorem dL_law_2354 : decode cL_law 2354 = .ok (.ireturn, 1) := sl_row agL_36 gL_36 (i := 29) (r := (50, .ireturn, 1)) rfl
theorem dL_law_2355 : decode cL_law 2355 = .ok (.iload 6, 2) := sl_row agL_36 gL_36 (i := 30) (r := (51, .iload 6, 2)) rfl
theorem dL_law_2357 : decode cL_law 2357 = .ok (.ifCond .ne 15, 3) := sl_row agL_36 gL_36 (i := 31) (r := (53, .ifCond .ne 15, 3)) rfl
theorem dL_law_2360 : decode cL_law 2360 = .ok (.aload_n 3, 1) := sl_row agL_36 gL_36 (i := 32) (r := (56, .aload_n 3, 1)) rfl
theorem dL_law_2361 : decode cL_law 2361 = .ok (.iconst 0, 1) := sl_row agL_36 gL_36 (i := 33) (r := (57, .iconst 0, 1)) rfl
theorem dL_law_2362 : decode cL_law 2362 = .ok (.laload, 1) := sl_row agL_36 gL_36 (i := 34) (r := (58, .laload, 1)) rfl
theorem dL_law_2363 : decode cL_law 2363 = .ok (.iload 7, 2) := sl_row agL_36 gL_36 (i := 35) (r := (59, .iload 7, 2)) rfl
theorem dL_law_2365 : decode cL_law 2365 = .ok (.i2l, 1) := sl_row agL_36 gL_36 (i := 36) (r := (61, .i2l, 1)) rfl
theorem dL_law_2366 : decode cL_law 2366 = .ok (.lcmp, 1) := sl_row agL_36 gL_36 (i := 37) (r := (62, .lcmp, 1)) rfl
theorem dL_law_2367 : decode cL_law 2367 = .ok (.ifCond .eq 5, 3) := sl_row agL_36 gL_36 (i := 38) (r := (63, .ifCond .eq 5, 3)) rfl
def ck_37 : ByteArray := .mk #[0x00, 0x05, 0x03, 0xac, 0xa7, 0x02, 0x49, 0x2b, 0x2a, 0x15, 0x05, 0x04, 0x60, 0x2e, 0x2a, 0x15, 0x05, 0x05, 0x60, 0x2e, 0x99, 0x00, 0x07, 0x04, 0xa7, 0x00, 0x04, 0x03, 0x2d, 0xb8, 0x01, 0x10, 0x36, 0x06, 0x2c, 0x2a, 0x15, 0x05, 0x04, 0x60, 0x2e, 0x2a, 0x15, 0x05, 0x05, 0x60, 0x2e, 0x99, 0x00, 0x07, 0x04, 0xa7, 0x00, 0x04, 0x03, 0xb6, 0x01, 0x12, 0x36, 0x07, 0x2c, 0xb6, 0x00, 0x95, 0x15, 0x06, 0x9f, 0x00]
set_option maxRecDepth 20000 in
theorem agL_37 : ∀ q, agB cL_law ck_37 (2368 + q) q := agB_of 2368 (by decide +kernel)
def tL_37 : List (Nat × Instr × Nat) := [(2, .iconst 0, 1), (3, .ireturn, 1), (4, .goto 585, 3), (7, .aload_n 1, 1), (8, .aload_n 0, 1), (9, .iload 5, 2), (11, .iconst 1, 1), (12, .iadd, 1), (13, .iaload, 1), (14, .aload_n 0, 1), (15, .iload 5, 2), (17, .iconst 2, 1), (18, .iadd, 1), (19, .iaload, 1), (20, .ifCond .eq 7, 3), (23, .iconst 1, 1), (24, .goto 4, 3), (27, .iconst 0, 1), (28, .aload_n 3, 1), (29, .invokestatic 272, 3), (32, .istore 6, 2), (34, .aload_n 2, 1), (35, .aload_n 0, 1), (36, .iload 5, 2), (38, .iconst 1, 1), (39, .iadd, 1), (40, .iaload, 1), (41, .aload_n 0, 1), (42, .iload 5, 2), (44, .iconst 2, 1), (45, .iadd, 1), (46, .iaload, 1), (47, .ifCond .eq 7, 3), (50, .iconst 1, 1), (51, .goto 4, 3), (54, .iconst 0, 1), (55, .invokevirtual 274, 3), (58, .istore 7, 2), (60, .aload_n 2, 1), (61, .invokevirtual 149, 3)]
theorem gL_37 : tL_37.all (fun r => opB ck_37 r.1 && decide (decode ck_37 r.1 = .ok (r.2.1, r.2.2))) = true := by decide +kernel
theorem dL_law_2370 : decode cL_law 2370 = .ok (.iconst 0, 1) := sl_row agL_37 gL_37 (i := 0) (r := (2, .iconst 0, 1)) rfl
theorem dL_law_2371 : decode cL_law 2371 = .ok (.ireturn, 1) := sl_row agL_37 gL_37 (i := 1) (r := (3, .ireturn, 1)) rfl
theorem dL_law_2372 : decode cL_law 2372 = .ok (.goto 585, 3) := sl_row agL_37 gL_37 (i := 2) (r := (4, .goto 585, 3)) rfl
theorem dL_law_2375 : decode cL_law 2375 = .ok (.aload_n 1, 1) := sl_row agL_37 gL_37 (i := 3) (r := (7, .aload_n 1, 1)) rfl
theorem dL_law_2376 : decode cL_law 2376 = .ok (.aload_n 0, 1) := sl_row agL_37 gL_37 (i := 4) (r := (8, .aload_n 0, 1)) rfl
theorem dL_law_2377 : decode cL_law 2377 = .ok (.iload 5, 2) := sl_row agL_37 gL_37 (i := 5) (r := (9, .iload 5, 2)) rfl
theorem dL_law_2379 : decode cL_law 2379 = .ok (.iconst 1, 1) := sl_row agL_37 gL_37 (i := 6) (r := (11, .iconst 1, 1)) rfl
theorem dL_law_2380 : decode cL_law 2380 = .ok (.iadd, 1) := sl_row agL_37 gL_37 (i := 7) (r := (12, .iadd, 1)) rfl
theorem dL_law_2381 : decode cL_law 2381 = .ok (.iaload, 1) := sl_row agL_37 gL_37 (i := 8) (r := (13, .iaload, 1)) rfl
theorem dL_law_2382 : decode cL_law 2382 = .ok (.aload_n 0, 1) := sl_row agL_37 gL_37 (i := 9) (r := (14, .aload_n 0, 1)) rfl
theorem dL_law_2383 : decode cL_law 2383 = .ok (.iload 5, 2) := sl_row agL_37 gL_37 (i := 10) (r := (15, .iload 5, 2)) rfl
theorem dL_law_2385 : decode cL_law 2385 = .ok (.iconst 2, 1) := sl_row agL_37 gL_37 (i := 11) (r := (17, .iconst 2, 1)) rfl
theorem dL_law_2386 : decode cL_law 2386 = .ok (.iadd, 1) := sl_row agL_37 gL_37 (i := 12) (r := (18, .iadd, 1)) rfl
theorem dL_law_2387 : decode cL_law 2387 = .ok (.iaload, 1) := sl_row agL_37 gL_37 (i := 13) (r := (19, .iaload, 1)) rfl
theorem dL_law_2388 : decode cL_law 2388 = .ok (.ifCond .eq 7, 3) := sl_row agL_37 gL_37 (i := 14) (r := (20, .ifCond .eq 7, 3)) rfl
theorem dL_law_2391 : decode cL_law 2391 = .ok (.iconst 1, 1) := sl_row agL_37 gL_37 (i := 15) (r := (23, .iconst 1, 1)) rfl
theorem dL_law_2392 : decode cL_law 2392 = .ok (.goto 4, 3) := sl_row agL_37 gL_37 (i := 16) (r := (24, .goto 4, 3)) rfl
theorem dL_law_2395 : decode cL_law 2395 = .ok (.iconst 0, 1) := sl_row agL_37 gL_37 (i := 17) (r := (27, .iconst 0, 1)) rfl
theorem dL_law_2396 : decode cL_law 2396 = .ok (.aload_n 3, 1) := sl_row agL_37 gL_37 (i := 18) (r := (28, .aload_n 3, 1)) rfl
theorem dL_law_2397 : decode cL_law 2397 = .ok (.invokestatic 272, 3) := sl_row agL_37 gL_37 (i := 19) (r := (29, .invokestatic 272, 3)) rfl
theorem dL_law_2400 : decode cL_law 2400 = .ok (.istore 6, 2) := sl_row agL_37 gL_37 (i := 20) (r := (32, .istore 6, 2)) rfl
theorem dL_law_2402 : decode cL_law 2402 = .ok (.aload_n 2, 1) := sl_row agL_37 gL_37 (i := 21) (r := (34, .aload_n 2, 1)) rfl
theorem dL_law_2403 : decode cL_law 2403 = .ok (.aload_n 0, 1) := sl_row agL_37 gL_37 (i := 22) (r := (35, .aload_n 0, 1)) rfl
theorem dL_law_2404 : decode cL_law 2404 = .ok (.iload 5, 2) := sl_row agL_37 gL_37 (i := 23) (r := (36, .iload 5, 2)) rfl
theorem dL_law_2406 : decode cL_law 2406 = .ok (.iconst 1, 1) := sl_row agL_37 gL_37 (i := 24) (r := (38, .iconst 1, 1)) rfl
theorem dL_law_2407 : decode cL_law 2407 = .ok (.iadd, 1) := sl_row agL_37 gL_37 (i := 25) (r := (39, .iadd, 1)) rfl
theorem dL_law_2408 : decode cL_law 2408 = .ok (.iaload, 1) := sl_row agL_37 gL_37 (i := 26) (r := (40, .iaload, 1)) rfl
theorem dL_law_2409 : decode cL_law 2409 = .ok (.aload_n 0, 1) := sl_row agL_37 gL_37 (i := 27) (r := (41, .aload_n 0, 1)) rfl
theorem dL_law_2410 : decode cL_law 2410 = .ok (.iload 5, 2) := sl_row agL_37 gL_37 (i := 28) (r := (42, .iload 5, 2)) rfl
theorem dL_law_2412 : decode cL_law 2412 = .ok (.iconst 2, 1) := sl_row agL_37 gL_37 (i := 29) (r := (44, .iconst 2, 1)) rfl
theorem dL_law_2413 : decode cL_law 2413 = .ok (.iadd, 1) := sl_row agL_37 gL_37 (i := 30) (r := (45, .iadd, 1)) rfl
theorem dL_law_2414 : decode cL_law 2414 = .ok (.iaload, 1) := sl_row agL_37 gL_37 (i := 31) (r := (46, .iaload, 1)) rfl
theorem dL_law_2415 : decode cL_law 2415 = .ok (.ifCond .eq 7, 3) := sl_row agL_37 gL_37 (i := 32) (r := (47, .ifCond .eq 7, 3)) rfl
theorem dL_law_2418 : decode cL_law 2418 = .ok (.iconst 1, 1) := sl_row agL_37 gL_37 (i := 33) (r := (50, .iconst 1, 1)) rfl
theorem dL_law_2419 : decode cL_law 2419 = .ok (.goto 4, 3) := sl_row agL_37 gL_37 (i := 34) (r := (51, .goto 4, 3)) rfl
theorem dL_law_2422 : decode cL_law 2422 = .ok (.iconst 0, 1) := sl_row agL_37 gL_37 (i := 35) (r := (54, .iconst 0, 1)) rfl
theorem dL_law_2423 : decode cL_law 2423 = .ok (.invokevirtual 274, 3) := sl_row agL_37 gL_37 (i := 36) (r := (55, .invokevirtual 274, 3)) rfl
theorem dL_law_2426 : decode cL_law 2426 = .ok (.istore 7, 2) := sl_row agL_37 gL_37 (i := 37) (r := (58, .istore 7, 2)) rfl
theorem dL_law_2428 : decode cL_law 2428 = .ok (.aload_n 2, 1) := sl_row agL_37 gL_37 (i := 38) (r := (60, .aload_n 2, 1)) rfl
theorem dL_law_2429 : decode cL_law 2429 = .ok (.invokevirtual 149, 3) := sl_row agL_37 gL_37 (i := 39) (r := (61, .invokevirtual 149, 3)) rfl
def ck_38 : ByteArray := .mk #[0x15, 0x06, 0x9f, 0x00, 0x05, 0x03, 0xac, 0x15, 0x06, 0x9a, 0x00, 0x0f, 0x2d, 0x03, 0x2f, 0x15, 0x07, 0x85, 0x94, 0x99, 0x00, 0x05, 0x03, 0xac, 0xa7, 0x01, 0xf5, 0x2b, 0x2a, 0x15, 0x05, 0x04, 0x60, 0x2e, 0x2a, 0x15, 0x05, 0x05, 0x60, 0x2e, 0x99, 0x00, 0x07, 0x04, 0xa7, 0x00, 0x04, 0x03, 0x2d, 0xb8, 0x01, 0x13, 0x36, 0x06, 0x2c, 0x2a, 0x15, 0x05, 0x04, 0x60, 0x2e, 0x2a, 0x15, 0x05, 0x05, 0x60, 0x2e, 0x99]
set_option maxRecDepth 20000 in
theorem agL_38 : ∀ q, agB cL_law ck_38 (2432 + q) q := agB_of 2432 (by decide +kernel)
def tL_38 : List (Nat × Instr × Nat) := [(0, .iload 6, 2), (2, .if_icmp .eq 5, 3), (5, .iconst 0, 1), (6, .ireturn, 1), (7, .iload 6, 2), (9, .ifCond .ne 15, 3), (12, .aload_n 3, 1), (13, .iconst 0, 1), (14, .laload, 1), (15, .iload 7, 2), (17, .i2l, 1), (18, .lcmp, 1), (19, .ifCond .eq 5, 3), (22, .iconst 0, 1), (23, .ireturn, 1), (24, .goto 501, 3), (27, .aload_n 1, 1), (28, .aload_n 0, 1), (29, .iload 5, 2), (31, .iconst 1, 1), (32, .iadd, 1), (33, .iaload, 1), (34, .aload_n 0, 1), (35, .iload 5, 2), (37, .iconst 2, 1), (38, .iadd, 1), (39, .iaload, 1), (40, .ifCond .eq 7, 3), (43, .iconst 1, 1), (44, .goto 4, 3), (47, .iconst 0, 1), (48, .aload_n 3, 1), (49, .invokestatic 275, 3), (52, .istore 6, 2), (54, .aload_n 2, 1), (55, .aload_n 0, 1), (56, .iload 5, 2), (58, .iconst 1, 1), (59, .iadd, 1), (60, .iaload, 1), (61, .aload_n 0, 1), (62, .iload 5, 2)]
theorem gL_38 : tL_38.all (fun r => opB ck_38 r.1 && decide (decode ck_38 r.1 = .ok (r.2.1, r.2.2))) = true := by decide +kernel
theorem dL_law_2432 : decode cL_law 2432 = .ok (.iload 6, 2) := sl_row agL_38 gL_38 (i := 0) (r := (0, .iload 6, 2)) rfl
theorem dL_law_2434 : decode cL_law 2434 = .ok (.if_icmp .eq 5, 3) := sl_row agL_38 gL_38 (i := 1) (r := (2, .if_icmp .eq 5, 3)) rfl
theorem dL_law_2437 : decode cL_law 2437 = .ok (.iconst 0, 1) := sl_row agL_38 gL_38 (i := 2) (r := (5, .iconst 0, 1)) rfl
theorem dL_law_2438 : decode cL_law 2438 = .ok (.ireturn, 1) := sl_row agL_38 gL_38 (i := 3) (r := (6, .ireturn, 1)) rfl
theorem dL_law_2439 : decode cL_law 2439 = .ok (.iload 6, 2) := sl_row agL_38 gL_38 (i := 4) (r := (7, .iload 6, 2)) rfl
theorem dL_law_2441 : decode cL_law 2441 = .ok (.ifCond .ne 15, 3) := sl_row agL_38 gL_38 (i := 5) (r := (9, .ifCond .ne 15, 3)) rfl
theorem dL_law_2444 : decode cL_law 2444 = .ok (.aload_n 3, 1) := sl_row agL_38 gL_38 (i := 6) (r := (12, .aload_n 3, 1)) rfl
theorem dL_law_2445 : decode cL_law 2445 = .ok (.iconst 0, 1) := sl_row agL_38 gL_38 (i := 7) (r := (13, .iconst 0, 1)) rfl
theorem dL_law_2446 : decode cL_law 2446 = .ok (.laload, 1) := sl_row agL_38 gL_38 (i := 8) (r := (14, .laload, 1)) rfl
theorem dL_law_2447 : decode cL_law 2447 = .ok (.iload 7, 2) := sl_row agL_38 gL_38 (i := 9) (r := (15, .iload 7, 2)) rfl
theorem dL_law_2449 : decode cL_law 2449 = .ok (.i2l, 1) := sl_row agL_38 gL_38 (i := 10) (r := (17, .i2l, 1)) rfl
theorem dL_law_2450 : decode cL_law 2450 = .ok (.lcmp, 1) := sl_row agL_38 gL_38 (i := 11) (r := (18, .lcmp, 1)) rfl
theorem dL_law_2451 : decode cL_law 2451 = .ok (.ifCond .eq 5, 3) := sl_row agL_38 gL_38 (i := 12) (r := (19, .ifCond .eq 5, 3)) rfl
theorem dL_law_2454 : decode cL_law 2454 = .ok (.iconst 0, 1) := sl_row agL_38 gL_38 (i := 13) (r := (22, .iconst 0, 1)) rfl
theorem dL_law_2455 : decode cL_law 2455 = .ok (.ireturn, 1) := sl_row agL_38 gL_38 (i := 14) (r := (23, .ireturn, 1)) rfl
theorem dL_law_2456 : decode cL_law 2456 = .ok (.goto 501, 3) := sl_row agL_38 gL_38 (i := 15) (r := (24, .goto 501, 3)) rfl
theorem dL_law_2459 : decode cL_law 2459 = .ok (.aload_n 1, 1) := sl_row agL_38 gL_38 (i := 16) (r := (27, .aload_n 1, 1)) rfl
theorem dL_law_2460 : decode cL_law 2460 = .ok (.aload_n 0, 1) := sl_row agL_38 gL_38 (i := 17) (r := (28, .aload_n 0, 1)) rfl
theorem dL_law_2461 : decode cL_law 2461 = .ok (.iload 5, 2) := sl_row agL_38 gL_38 (i := 18) (r := (29, .iload 5, 2)) rfl
theorem dL_law_2463 : decode cL_law 2463 = .ok (.iconst 1, 1) := sl_row agL_38 gL_38 (i := 19) (r := (31, .iconst 1, 1)) rfl
theorem dL_law_2464 : decode cL_law 2464 = .ok (.iadd, 1) := sl_row agL_38 gL_38 (i := 20) (r := (32, .iadd, 1)) rfl
theorem dL_law_2465 : decode cL_law 2465 = .ok (.iaload, 1) := sl_row agL_38 gL_38 (i := 21) (r := (33, .iaload, 1)) rfl
theorem dL_law_2466 : decode cL_law 2466 = .ok (.aload_n 0, 1) := sl_row agL_38 gL_38 (i := 22) (r := (34, .aload_n 0, 1)) rfl
theorem dL_law_2467 : decode cL_law 2467 = .ok (.iload 5, 2) := sl_row agL_38 gL_38 (i := 23) (r := (35, .iload 5, 2)) rfl
theorem dL_law_2469 : decode cL_law 2469 = .ok (.iconst 2, 1) := sl_row agL_38 gL_38 (i := 24) (r := (37, .iconst 2, 1)) rfl
theorem dL_law_2470 : decode cL_law 2470 = .ok (.iadd, 1) := sl_row agL_38 gL_38 (i := 25) (r := (38, .iadd, 1)) rfl
theorem dL_law_2471 : decode cL_law 2471 = .ok (.iaload, 1) := sl_row agL_38 gL_38 (i := 26) (r := (39, .iaload, 1)) rfl
theorem dL_law_2472 : decode cL_law 2472 = .ok (.ifCond .eq 7, 3) := sl_row agL_38 gL_38 (i := 27) (r := (40, .ifCond .eq 7, 3)) rfl
theorem dL_law_2475 : decode cL_law 2475 = .ok (.iconst 1, 1) := sl_row agL_38 gL_38 (i := 28) (r := (43, .iconst 1, 1)) rfl
theorem dL_law_2476 : decode cL_law 2476 = .ok (.goto 4, 3) := sl_row agL_38 gL_38 (i := 29) (r := (44, .goto 4, 3)) rfl
theorem dL_law_2479 : decode cL_law 2479 = .ok (.iconst 0, 1) := sl_row agL_38 gL_38 (i := 30) (r := (47, .iconst 0, 1)) rfl
theorem dL_law_2480 : decode cL_law 2480 = .ok (.aload_n 3, 1) := sl_row agL_38 gL_38 (i := 31) (r := (48, .aload_n 3, 1)) rfl
theorem dL_law_2481 : decode cL_law 2481 = .ok (.invokestatic 275, 3) := sl_row agL_38 gL_38 (i := 32) (r := (49, .invokestatic 275, 3)) rfl
theorem dL_law_2484 : decode cL_law 2484 = .ok (.istore 6, 2) := sl_row agL_38 gL_38 (i := 33) (r := (52, .istore 6, 2)) rfl
theorem dL_law_2486 : decode cL_law 2486 = .ok (.aload_n 2, 1) := sl_row agL_38 gL_38 (i := 34) (r := (54, .aload_n 2, 1)) rfl
theorem dL_law_2487 : decode cL_law 2487 = .ok (.aload_n 0, 1) := sl_row agL_38 gL_38 (i := 35) (r := (55, .aload_n 0, 1)) rfl
theorem dL_law_2488 : decode cL_law 2488 = .ok (.iload 5, 2) := sl_row agL_38 gL_38 (i := 36) (r := (56, .iload 5, 2)) rfl
theorem dL_law_2490 : decode cL_law 2490 = .ok (.iconst 1, 1) := sl_row agL_38 gL_38 (i := 37) (r := (58, .iconst 1, 1)) rfl
theorem dL_law_2491 : decode cL_law 2491 = .ok (.iadd, 1) := sl_row agL_38 gL_38 (i := 38) (r := (59, .iadd, 1)) rfl
theorem dL_law_2492 : decode cL_law 2492 = .ok (.iaload, 1) := sl_row agL_38 gL_38 (i := 39) (r := (60, .iaload, 1)) rfl
theorem dL_law_2493 : decode cL_law 2493 = .ok (.aload_n 0, 1) := sl_row agL_38 gL_38 (i := 40) (r := (61, .aload_n 0, 1)) rfl
theorem dL_law_2494 : decode cL_law 2494 = .ok (.iload 5, 2) := sl_row agL_38 gL_38 (i := 41) (r := (62, .iload 5, 2)) rfl
def ck_39 : ByteArray := .mk #[0x05, 0x60, 0x2e, 0x99, 0x00, 0x07, 0x04, 0xa7, 0x00, 0x04, 0x03, 0xb6, 0x01, 0x15, 0x36, 0x07, 0x2c, 0xb6, 0x00, 0x95, 0x15, 0x06, 0x9f, 0x00, 0x05, 0x03, 0xac, 0x15, 0x06, 0x9a, 0x00, 0x0f, 0x2d, 0x03, 0x2f, 0x15, 0x07, 0x85, 0x94, 0x99, 0x00, 0x05, 0x03, 0xac, 0xa7, 0x01, 0xa1, 0x2b, 0x2a, 0x15, 0x05, 0x04, 0x60, 0x2e, 0x2a, 0x15, 0x05, 0x05, 0x60, 0x2e, 0x2d, 0xb8, 0x01, 0x16, 0x36, 0x06, 0x2c, 0x2a]
set_option maxRecDepth 20000 in
theorem agL_39 : ∀ q, agB cL_law ck_39 (2496 + q) q := agB_of 2496 (by decide +kernel)
def tL_39 : List (Nat × Instr × Nat) := [(0, .iconst 2, 1), (1, .iadd, 1), (2, .iaload, 1), (3, .ifCond .eq 7, 3), (6, .iconst 1, 1), (7, .goto 4, 3), (10, .iconst 0, 1), (11, .invokevirtual 277, 3), (14, .istore 7, 2), (16, .aload_n 2, 1), (17, .invokevirtual 149, 3), (20, .iload 6, 2), (22, .if_icmp .eq 5, 3), (25, .iconst 0, 1), (26, .ireturn, 1), (27, .iload 6, 2), (29, .ifCond .ne 15, 3), (32, .aload_n 3, 1), (33, .iconst 0, 1), (34, .laload, 1), (35, .iload 7, 2), (37, .i2l, 1), (38, .lcmp, 1), (39, .ifCond .eq 5, 3), (42, .iconst 0, 1), (43, .ireturn, 1), (44, .goto 417, 3), (47, .aload_n 1, 1), (48, .aload_n 0, 1), (49, .iload 5, 2), (51, .iconst 1, 1), (52, .iadd, 1), (53, .iaload, 1), (54, .aload_n 0, 1), (55, .iload 5, 2), (57, .iconst 2, 1), (58, .iadd, 1), (59, .iaload, 1), (60, .aload_n 3, 1), (61, .invokestatic 278, 3)]
theorem gL_39 : tL_39.all (fun r => opB ck_39 r.1 && decide (decode ck_39 r.1 = .ok (r.2.1, r.2.2))) = true := by decide +kernel
theorem dL_law_2496 : decode cL_law 2496 = .ok (.iconst 2, 1) := sl_row agL_39 gL_39 (i := 0) (r := (0, .iconst 2, 1)) rfl
theorem dL_law_2497 : decode cL_law 2497 = .ok (.iadd, 1) := sl_row agL_39 gL_39 (i := 1) (r := (1, .iadd, 1)) rfl
theorem dL_law_2498 : decode cL_law 2498 = .ok (.iaload, 1) := sl_row agL_39 gL_39 (i := 2) (r := (2, .iaload, 1)) rfl
theorem dL_law_2499 : decode cL_law 2499 = .ok (.ifCond .eq 7, 3) := sl_row agL_39 gL_39 (i := 3) (r := (3, .ifCond .eq 7, 3)) rfl
theorem dL_law_2502 : decode cL_law 2502 = .ok (.iconst 1, 1) := sl_row agL_39 gL_39 (i := 4) (r := (6, .iconst 1, 1)) rfl
theorem dL_law_2503 : decode cL_law 2503 = .ok (.goto 4, 3) := sl_row agL_39 gL_39 (i := 5) (r := (7, .goto 4, 3)) rfl
theorem dL_law_2506 : decode cL_law 2506 = .ok (.iconst 0, 1) := sl_row agL_39 gL_39 (i := 6) (r := (10, .iconst 0, 1)) rfl
theorem dL_law_2507 : decode cL_law 2507 = .ok (.invokevirtual 277, 3) := sl_row agL_39 gL_39 (i := 7) (r := (11, .invokevirtual 277, 3)) rfl
theorem dL_law_2510 : decode cL_law 2510 = .ok (.istore 7, 2) := sl_row agL_39 gL_39 (i := 8) (r := (14, .istore 7, 2)) rfl
theorem dL_law_2512 : decode cL_law 2512 = .ok (.aload_n 2, 1) := sl_row agL_39 gL_39 (i := 9) (r := (16, .aload_n 2, 1)) rfl
theorem dL_law_2513 : decode cL_law 2513 = .ok (.invokevirtual 149, 3) := sl_row agL_39 gL_39 (i := 10) (r := (17, .invokevirtual 149, 3)) rfl
theorem dL_law_2516 : decode cL_law 2516 = .ok (.iload 6, 2) := sl_row agL_39 gL_39 (i := 11) (r := (20, .iload 6, 2)) rfl
theorem dL_law_2518 : decode cL_law 2518 = .ok (.if_icmp .eq 5, 3) := sl_row agL_39 gL_39 (i := 12) (r := (22, .if_icmp .eq 5, 3)) rfl
theorem dL_law_2521 : decode cL_law 2521 = .ok (.iconst 0, 1) := sl_row agL_39 gL_39 (i := 13) (r := (25, .iconst 0, 1)) rfl
theorem dL_law_2522 : decode cL_law 2522 = .ok (.ireturn, 1) := sl_row agL_39 gL_39 (i := 14) (r := (26, .ireturn, 1)) rfl
theorem dL_law_2523 : decode cL_law 2523 = .ok (.iload 6, 2) := sl_row agL_39 gL_39 (i := 15) (r := (27, .iload 6, 2)) rfl
theorem dL_law_2525 : decode cL_law 2525 = .ok (.ifCond .ne 15, 3) := sl_row agL_39 gL_39 (i := 16) (r := (29, .ifCond .ne 15, 3)) rfl
theorem dL_law_2528 : decode cL_law 2528 = .ok (.aload_n 3, 1) := sl_row agL_39 gL_39 (i := 17) (r := (32, .aload_n 3, 1)) rfl
theorem dL_law_2529 : decode cL_law 2529 = .ok (.iconst 0, 1) := sl_row agL_39 gL_39 (i := 18) (r := (33, .iconst 0, 1)) rfl
theorem dL_law_2530 : decode cL_law 2530 = .ok (.laload, 1) := sl_row agL_39 gL_39 (i := 19) (r := (34, .laload, 1)) rfl
theorem dL_law_2531 : decode cL_law 2531 = .ok (.iload 7, 2) := sl_row agL_39 gL_39 (i := 20) (r := (35, .iload 7, 2)) rfl
theorem dL_law_2533 : decode cL_law 2533 = .ok (.i2l, 1) := sl_row agL_39 gL_39 (i := 21) (r := (37, .i2l, 1)) rfl
theorem dL_law_2534 : decode cL_law 2534 = .ok (.lcmp, 1) := sl_row agL_39 gL_39 (i := 22) (r := (38, .lcmp, 1)) rfl
theorem dL_law_2535 : decode cL_law 2535 = .ok (.ifCond .eq 5, 3) := sl_row agL_39 gL_39 (i := 23) (r := (39, .ifCond .eq 5, 3)) rfl
theorem dL_law_2538 : decode cL_law 2538 = .ok (.iconst 0, 1) := sl_row agL_39 gL_39 (i := 24) (r := (42, .iconst 0, 1)) rfl
theorem dL_law_2539 : decode cL_law 2539 = .ok (.ireturn, 1) := sl_row agL_39 gL_39 (i := 25) (r := (43, .ireturn, 1)) rfl
theorem dL_law_2540 : decode cL_law 2540 = .ok (.goto 417, 3) := sl_row agL_39 gL_39 (i := 26) (r := (44, .goto 417, 3)) rfl
theorem dL_law_2543 : decode cL_law 2543 = .ok (.aload_n 1, 1) := sl_row agL_39 gL_39 (i := 27) (r := (47, .aload_n 1, 1)) rfl
theorem dL_law_2544 : decode cL_law 2544 = .ok (.aload_n 0, 1) := sl_row agL_39 gL_39 (i := 28) (r := (48, .aload_n 0, 1)) rfl
theorem dL_law_2545 : decode cL_law 2545 = .ok (.iload 5, 2) := sl_row agL_39 gL_39 (i := 29) (r := (49, .iload 5, 2)) rfl
theorem dL_law_2547 : decode cL_law 2547 = .ok (.iconst 1, 1) := sl_row agL_39 gL_39 (i := 30) (r := (51, .iconst 1, 1)) rfl
theorem dL_law_2548 : decode cL_law 2548 = .ok (.iadd, 1) := sl_row agL_39 gL_39 (i := 31) (r := (52, .iadd, 1)) rfl
theorem dL_law_2549 : decode cL_law 2549 = .ok (.iaload, 1) := sl_row agL_39 gL_39 (i := 32) (r := (53, .iaload, 1)) rfl
theorem dL_law_2550 : decode cL_law 2550 = .ok (.aload_n 0, 1) := sl_row agL_39 gL_39 (i := 33) (r := (54, .aload_n 0, 1)) rfl
theorem dL_law_2551 : decode cL_law 2551 = .ok (.iload 5, 2) := sl_row agL_39 gL_39 (i := 34) (r := (55, .iload 5, 2)) rfl
theorem dL_law_2553 : decode cL_law 2553 = .ok (.iconst 2, 1) := sl_row agL_39 gL_39 (i := 35) (r := (57, .iconst 2, 1)) rfl
theorem dL_law_2554 : decode cL_law 2554 = .ok (.iadd, 1) := sl_row agL_39 gL_39 (i := 36) (r := (58, .iadd, 1)) rfl
theorem dL_law_2555 : decode cL_law 2555 = .ok (.iaload, 1) := sl_row agL_39 gL_39 (i := 37) (r := (59, .iaload, 1)) rfl
theorem dL_law_2556 : decode cL_law 2556 = .ok (.aload_n 3, 1) := sl_row agL_39 gL_39 (i := 38) (r := (60, .aload_n 3, 1)) rfl
theorem dL_law_2557 : decode cL_law 2557 = .ok (.invokestatic 278, 3) := sl_row agL_39 gL_39 (i := 39) (r := (61, .invokestatic 278, 3)) rfl
def ck_40 : ByteArray := .mk #[0x36, 0x06, 0x2c, 0x2a, 0x15, 0x05, 0x04, 0x60, 0x2e, 0x2a, 0x15, 0x05, 0x05, 0x60, 0x2e, 0xb6, 0x01, 0x18, 0x36, 0x07, 0x2c, 0xb6, 0x00, 0x95, 0x15, 0x06, 0x9f, 0x00, 0x05, 0x03, 0xac, 0x15, 0x06, 0x9a, 0x00, 0x0f, 0x2d, 0x03, 0x2f, 0x15, 0x07, 0x85, 0x94, 0x99, 0x00, 0x05, 0x03, 0xac, 0xa7, 0x01, 0x5d, 0x2b, 0x2a, 0x15, 0x05, 0x04, 0x60, 0x2e, 0x2a, 0x15, 0x05, 0x05, 0x60, 0x2e, 0x2d, 0xb8, 0x01, 0x19]
set_option maxRecDepth 20000 in
theorem agL_40 : ∀ q, agB cL_law ck_40 (2560 + q) q := agB_of 2560 (by decide +kernel)
def tL_40 : List (Nat × Instr × Nat) := [(0, .istore 6, 2), (2, .aload_n 2, 1), (3, .aload_n 0, 1), (4, .iload 5, 2), (6, .iconst 1, 1), (7, .iadd, 1), (8, .iaload, 1), (9, .aload_n 0, 1), (10, .iload 5, 2), (12, .iconst 2, 1), (13, .iadd, 1), (14, .iaload, 1), (15, .invokevirtual 280, 3), (18, .istore 7, 2), (20, .aload_n 2, 1), (21, .invokevirtual 149, 3), (24, .iload 6, 2), (26, .if_icmp .eq 5, 3), (29, .iconst 0, 1), (30, .ireturn, 1), (31, .iload 6, 2), (33, .ifCond .ne 15, 3), (36, .aload_n 3, 1), (37, .iconst 0, 1), (38, .laload, 1), (39, .iload 7, 2), (41, .i2l, 1), (42, .lcmp, 1), (43, .ifCond .eq 5, 3), (46, .iconst 0, 1), (47, .ireturn, 1), (48, .goto 349, 3), (51, .aload_n 1, 1), (52, .aload_n 0, 1), (53, .iload 5, 2), (55, .iconst 1, 1), (56, .iadd, 1), (57, .iaload, 1), (58, .aload_n 0, 1), (59, .iload 5, 2), (61, .iconst 2, 1), (62, .iadd, 1), (63, .iaload, 1)]
theorem gL_40 : tL_40.all (fun r => opB ck_40 r.1 && decide (decode ck_40 r.1 = .ok (r.2.1, r.2.2))) = true := by decide +kernel
theorem dL_law_2560 : decode cL_law 2560 = .ok (.istore 6, 2) := sl_row agL_40 gL_40 (i := 0) (r := (0, .istore 6, 2)) rfl
theorem dL_law_2562 : decode cL_law 2562 = .ok (.aload_n 2, 1) := sl_row agL_40 gL_40 (i := 1) (r := (2, .aload_n 2, 1)) rfl
theorem dL_law_2563 : decode cL_law 2563 = .ok (.aload_n 0, 1) := sl_row agL_40 gL_40 (i := 2) (r := (3, .aload_n 0, 1)) rfl
theorem dL_law_2564 : decode cL_law 2564 = .ok (.iload 5, 2) := sl_row agL_40 gL_40 (i := 3) (r := (4, .iload 5, 2)) rfl
theorem dL_law_2566 : decode cL_law 2566 = .ok (.iconst 1, 1) := sl_row agL_40 gL_40 (i := 4) (r := (6, .iconst 1, 1)) rfl
theorem dL_law_2567 : decode cL_law 2567 = .ok (.iadd, 1) := sl_row agL_40 gL_40 (i := 5) (r := (7, .iadd, 1)) rfl
theorem dL_law_2568 : decode cL_law 2568 = .ok (.iaload, 1) := sl_row agL_40 gL_40 (i := 6) (r := (8, .iaload, 1)) rfl
theorem dL_law_2569 : decode cL_law 2569 = .ok (.aload_n 0, 1) := sl_row agL_40 gL_40 (i := 7) (r := (9, .aload_n 0, 1)) rfl
theorem dL_law_2570 : decode cL_law 2570 = .ok (.iload 5, 2) := sl_row agL_40 gL_40 (i := 8) (r := (10, .iload 5, 2)) rfl
theorem dL_law_2572 : decode cL_law 2572 = .ok (.iconst 2, 1) := sl_row agL_40 gL_40 (i := 9) (r := (12, .iconst 2, 1)) rfl
theorem dL_law_2573 : decode cL_law 2573 = .ok (.iadd, 1) := sl_row agL_40 gL_40 (i := 10) (r := (13, .iadd, 1)) rfl
theorem dL_law_2574 : decode cL_law 2574 = .ok (.iaload, 1) := sl_row agL_40 gL_40 (i := 11) (r := (14, .iaload, 1)) rfl
theorem dL_law_2575 : decode cL_law 2575 = .ok (.invokevirtual 280, 3) := sl_row agL_40 gL_40 (i := 12) (r := (15, .invokevirtual 280, 3)) rfl
theorem dL_law_2578 : decode cL_law 2578 = .ok (.istore 7, 2) := sl_row agL_40 gL_40 (i := 13) (r := (18, .istore 7, 2)) rfl
theorem dL_law_2580 : decode cL_law 2580 = .ok (.aload_n 2, 1) := sl_row agL_40 gL_40 (i := 14) (r := (20, .aload_n 2, 1)) rfl
theorem dL_law_2581 : decode cL_law 2581 = .ok (.invokevirtual 149, 3) := sl_row agL_40 gL_40 (i := 15) (r := (21, .invokevirtual 149, 3)) rfl
theorem dL_law_2584 : decode cL_law 2584 = .ok (.iload 6, 2) := sl_row agL_40 gL_40 (i := 16) (r := (24, .iload 6, 2)) rfl
theorem dL_law_2586 : decode cL_law 2586 = .ok (.if_icmp .eq 5, 3) := sl_row agL_40 gL_40 (i := 17) (r := (26, .if_icmp .eq 5, 3)) rfl
theorem dL_law_2589 : decode cL_law 2589 = .ok (.iconst 0, 1) := sl_row agL_40 gL_40 (i := 18) (r := (29, .iconst 0, 1)) rfl
theorem dL_law_2590 : decode cL_law 2590 = .ok (.ireturn, 1) := sl_row agL_40 gL_40 (i := 19) (r := (30, .ireturn, 1)) rfl
theorem dL_law_2591 : decode cL_law 2591 = .ok (.iload 6, 2) := sl_row agL_40 gL_40 (i := 20) (r := (31, .iload 6, 2)) rfl
theorem dL_law_2593 : decode cL_law 2593 = .ok (.ifCond .ne 15, 3) := sl_row agL_40 gL_40 (i := 21) (r := (33, .ifCond .ne 15, 3)) rfl
theorem dL_law_2596 : decode cL_law 2596 = .ok (.aload_n 3, 1) := sl_row agL_40 gL_40 (i := 22) (r := (36, .aload_n 3, 1)) rfl
theorem dL_law_2597 : decode cL_law 2597 = .ok (.iconst 0, 1) := sl_row agL_40 gL_40 (i := 23) (r := (37, .iconst 0, 1)) rfl
theorem dL_law_2598 : decode cL_law 2598 = .ok (.laload, 1) := sl_row agL_40 gL_40 (i := 24) (r := (38, .laload, 1)) rfl
theorem dL_law_2599 : decode cL_law 2599 = .ok (.iload 7, 2) := sl_row agL_40 gL_40 (i := 25) (r := (39, .iload 7, 2)) rfl
theorem dL_law_2601 : decode cL_law 2601 = .ok (.i2l, 1) := sl_row agL_40 gL_40 (i := 26) (r := (41, .i2l, 1)) rfl
theorem dL_law_2602 : decode cL_law 2602 = .ok (.lcmp, 1) := sl_row agL_40 gL_40 (i := 27) (r := (42, .lcmp, 1)) rfl
theorem dL_law_2603 : decode cL_law 2603 = .ok (.ifCond .eq 5, 3) := sl_row agL_40 gL_40 (i := 28) (r := (43, .ifCond .eq 5, 3)) rfl
theorem dL_law_2606 : decode cL_law 2606 = .ok (.iconst 0, 1) := sl_row agL_40 gL_40 (i := 29) (r := (46, .iconst 0, 1)) rfl
theorem dL_law_2607 : decode cL_law 2607 = .ok (.ireturn, 1) := sl_row agL_40 gL_40 (i := 30) (r := (47, .ireturn, 1)) rfl
theorem dL_law_2608 : decode cL_law 2608 = .ok (.goto 349, 3) := sl_row agL_40 gL_40 (i := 31) (r := (48, .goto 349, 3)) rfl
theorem dL_law_2611 : decode cL_law 2611 = .ok (.aload_n 1, 1) := sl_row agL_40 gL_40 (i := 32) (r := (51, .aload_n 1, 1)) rfl
theorem dL_law_2612 : decode cL_law 2612 = .ok (.aload_n 0, 1) := sl_row agL_40 gL_40 (i := 33) (r := (52, .aload_n 0, 1)) rfl
theorem dL_law_2613 : decode cL_law 2613 = .ok (.iload 5, 2) := sl_row agL_40 gL_40 (i := 34) (r := (53, .iload 5, 2)) rfl
theorem dL_law_2615 : decode cL_law 2615 = .ok (.iconst 1, 1) := sl_row agL_40 gL_40 (i := 35) (r := (55, .iconst 1, 1)) rfl
theorem dL_law_2616 : decode cL_law 2616 = .ok (.iadd, 1) := sl_row agL_40 gL_40 (i := 36) (r := (56, .iadd, 1)) rfl
theorem dL_law_2617 : decode cL_law 2617 = .ok (.iaload, 1) := sl_row agL_40 gL_40 (i := 37) (r := (57, .iaload, 1)) rfl
theorem dL_law_2618 : decode cL_law 2618 = .ok (.aload_n 0, 1) := sl_row agL_40 gL_40 (i := 38) (r := (58, .aload_n 0, 1)) rfl
theorem dL_law_2619 : decode cL_law 2619 = .ok (.iload 5, 2) := sl_row agL_40 gL_40 (i := 39) (r := (59, .iload 5, 2)) rfl
theorem dL_law_2621 : decode cL_law 2621 = .ok (.iconst 2, 1) := sl_row agL_40 gL_40 (i := 40) (r := (61, .iconst 2, 1)) rfl
theorem dL_law_2622 : decode cL_law 2622 = .ok (.iadd, 1) := sl_row agL_40 gL_40 (i := 41) (r := (62, .iadd, 1)) rfl
theorem dL_law_2623 : decode cL_law 2623 = .ok (.iaload, 1) := sl_row agL_40 gL_40 (i := 42) (r := (63, .iaload, 1)) rfl
def ck_41 : ByteArray := .mk #[0x2d, 0xb8, 0x01, 0x19, 0x36, 0x06, 0x2c, 0x2a, 0x15, 0x05, 0x04, 0x60, 0x2e, 0x2a, 0x15, 0x05, 0x05, 0x60, 0x2e, 0xb6, 0x01, 0x1b, 0x36, 0x07, 0x2c, 0xb6, 0x00, 0x95, 0x15, 0x06, 0x9f, 0x00, 0x05, 0x03, 0xac, 0x15, 0x06, 0x9a, 0x00, 0x0f, 0x2d, 0x03, 0x2f, 0x15, 0x07, 0x85, 0x94, 0x99, 0x00, 0x05, 0x03, 0xac, 0xa7, 0x01, 0x19, 0x2b, 0x2a, 0x15, 0x05, 0x04, 0x60, 0x2e, 0x2a, 0x15, 0x05, 0x05, 0x60, 0x2e]
set_option maxRecDepth 20000 in
theorem agL_41 : ∀ q, agB cL_law ck_41 (2624 + q) q := agB_of 2624 (by decide +kernel)
def tL_41 : List (Nat × Instr × Nat) := [(0, .aload_n 3, 1), (1, .invokestatic 281, 3), (4, .istore 6, 2), (6, .aload_n 2, 1), (7, .aload_n 0, 1), (8, .iload 5, 2), (10, .iconst 1, 1), (11, .iadd, 1), (12, .iaload, 1), (13, .aload_n 0, 1), (14, .iload 5, 2), (16, .iconst 2, 1), (17, .iadd, 1), (18, .iaload, 1), (19, .invokevirtual 283, 3), (22, .istore 7, 2), (24, .aload_n 2, 1), (25, .invokevirtual 149, 3), (28, .iload 6, 2), (30, .if_icmp .eq 5, 3), (33, .iconst 0, 1), (34, .ireturn, 1), (35, .iload 6, 2), (37, .ifCond .ne 15, 3), (40, .aload_n 3, 1), (41, .iconst 0, 1), (42, .laload, 1), (43, .iload 7, 2), (45, .i2l, 1), (46, .lcmp, 1), (47, .ifCond .eq 5, 3), (50, .iconst 0, 1), (51, .ireturn, 1), (52, .goto 281, 3), (55, .aload_n 1, 1), (56, .aload_n 0, 1), (57, .iload 5, 2), (59, .iconst 1, 1), (60, .iadd, 1), (61, .iaload, 1), (62, .aload_n 0, 1), (63, .iload 5, 2)]
theorem gL_41 : tL_41.all (fun r => opB ck_41 r.1 && decide (decode ck_41 r.1 = .ok (r.2.1, r.2.2))) = true := by decide +kernel
theorem dL_law_2624 : decode cL_law 2624 = .ok (.aload_n 3, 1) := sl_row agL_41 gL_41 (i := 0) (r := (0, .aload_n 3, 1)) rfl
theorem dL_law_2625 : decode cL_law 2625 = .ok (.invokestatic 281, 3) := sl_row agL_41 gL_41 (i := 1) (r := (1, .invokestatic 281, 3)) rfl
theorem dL_law_2628 : decode cL_law 2628 = .ok (.istore 6, 2) := sl_row agL_41 gL_41 (i := 2) (r := (4, .istore 6, 2)) rfl
theorem dL_law_2630 : decode cL_law 2630 = .ok (.aload_n 2, 1) := sl_row agL_41 gL_41 (i := 3) (r := (6, .aload_n 2, 1)) rfl
theorem dL_law_2631 : decode cL_law 2631 = .ok (.aload_n 0, 1) := sl_row agL_41 gL_41 (i := 4) (r := (7, .aload_n 0, 1)) rfl
theorem dL_law_2632 : decode cL_law 2632 = .ok (.iload 5, 2) := sl_row agL_41 gL_41 (i := 5) (r := (8, .iload 5, 2)) rfl
theorem dL_law_2634 : decode cL_law 2634 = .ok (.iconst 1, 1) := sl_row agL_41 gL_41 (i := 6) (r := (10, .iconst 1, 1)) rfl
theorem dL_law_2635 : decode cL_law 2635 = .ok (.iadd, 1) := sl_row agL_41 gL_41 (i := 7) (r := (11, .iadd, 1)) rfl
theorem dL_law_2636 : decode cL_law 2636 = .ok (.iaload, 1) := sl_row agL_41 gL_41 (i := 8) (r := (12, .iaload, 1)) rfl
theorem dL_law_2637 : decode cL_law 2637 = .ok (.aload_n 0, 1) := sl_row agL_41 gL_41 (i := 9) (r := (13, .aload_n 0, 1)) rfl
theorem dL_law_2638 : decode cL_law 2638 = .ok (.iload 5, 2) := sl_row agL_41 gL_41 (i := 10) (r := (14, .iload 5, 2)) rfl
theorem dL_law_2640 : decode cL_law 2640 = .ok (.iconst 2, 1) := sl_row agL_41 gL_41 (i := 11) (r := (16, .iconst 2, 1)) rfl
theorem dL_law_2641 : decode cL_law 2641 = .ok (.iadd, 1) := sl_row agL_41 gL_41 (i := 12) (r := (17, .iadd, 1)) rfl
theorem dL_law_2642 : decode cL_law 2642 = .ok (.iaload, 1) := sl_row agL_41 gL_41 (i := 13) (r := (18, .iaload, 1)) rfl
theorem dL_law_2643 : decode cL_law 2643 = .ok (.invokevirtual 283, 3) := sl_row agL_41 gL_41 (i := 14) (r := (19, .invokevirtual 283, 3)) rfl
theorem dL_law_2646 : decode cL_law 2646 = .ok (.istore 7, 2) := sl_row agL_41 gL_41 (i := 15) (r := (22, .istore 7, 2)) rfl
theorem dL_law_2648 : decode cL_law 2648 = .ok (.aload_n 2, 1) := sl_row agL_41 gL_41 (i := 16) (r := (24, .aload_n 2, 1)) rfl
theorem dL_law_2649 : decode cL_law 2649 = .ok (.invokevirtual 149, 3) := sl_row agL_41 gL_41 (i := 17) (r := (25, .invokevirtual 149, 3)) rfl
theorem dL_law_2652 : decode cL_law 2652 = .ok (.iload 6, 2) := sl_row agL_41 gL_41 (i := 18) (r := (28, .iload 6, 2)) rfl
theorem dL_law_2654 : decode cL_law 2654 = .ok (.if_icmp .eq 5, 3) := sl_row agL_41 gL_41 (i := 19) (r := (30, .if_icmp .eq 5, 3)) rfl
theorem dL_law_2657 : decode cL_law 2657 = .ok (.iconst 0, 1) := sl_row agL_41 gL_41 (i := 20) (r := (33, .iconst 0, 1)) rfl
theorem dL_law_2658 : decode cL_law 2658 = .ok (.ireturn, 1) := sl_row agL_41 gL_41 (i := 21) (r := (34, .ireturn, 1)) rfl
theorem dL_law_2659 : decode cL_law 2659 = .ok (.iload 6, 2) := sl_row agL_41 gL_41 (i := 22) (r := (35, .iload 6, 2)) rfl
theorem dL_law_2661 : decode cL_law 2661 = .ok (.ifCond .ne 15, 3) := sl_row agL_41 gL_41 (i := 23) (r := (37, .ifCond .ne 15, 3)) rfl
theorem dL_law_2664 : decode cL_law 2664 = .ok (.aload_n 3, 1) := sl_row agL_41 gL_41 (i := 24) (r := (40, .aload_n 3, 1)) rfl
theorem dL_law_2665 : decode cL_law 2665 = .ok (.iconst 0, 1) := sl_row agL_41 gL_41 (i := 25) (r := (41, .iconst 0, 1)) rfl
theorem dL_law_2666 : decode cL_law 2666 = .ok (.laload, 1) := sl_row agL_41 gL_41 (i := 26) (r := (42, .laload, 1)) rfl
theorem dL_law_2667 : decode cL_law 2667 = .ok (.iload 7, 2) := sl_row agL_41 gL_41 (i := 27) (r := (43, .iload 7, 2)) rfl
theorem dL_law_2669 : decode cL_law 2669 = .ok (.i2l, 1) := sl_row agL_41 gL_41 (i := 28) (r := (45, .i2l, 1)) rfl
theorem dL_law_2670 : decode cL_law 2670 = .ok (.lcmp, 1) := sl_row agL_41 gL_41 (i := 29) (r := (46, .lcmp, 1)) rfl
theorem dL_law_2671 : decode cL_law 2671 = .ok (.ifCond .eq 5, 3) := sl_row agL_41 gL_41 (i := 30) (r := (47, .ifCond .eq 5, 3)) rfl
theorem dL_law_2674 : decode cL_law 2674 = .ok (.iconst 0, 1) := sl_row agL_41 gL_41 (i := 31) (r := (50, .iconst 0, 1)) rfl
theorem dL_law_2675 : decode cL_law 2675 = .ok (.ireturn, 1) := sl_row agL_41 gL_41 (i := 32) (r := (51, .ireturn, 1)) rfl
theorem dL_law_2676 : decode cL_law 2676 = .ok (.goto 281, 3) := sl_row agL_41 gL_41 (i := 33) (r := (52, .goto 281, 3)) rfl
theorem dL_law_2679 : decode cL_law 2679 = .ok (.aload_n 1, 1) := sl_row agL_41 gL_41 (i := 34) (r := (55, .aload_n 1, 1)) rfl
theorem dL_law_2680 : decode cL_law 2680 = .ok (.aload_n 0, 1) := sl_row agL_41 gL_41 (i := 35) (r := (56, .aload_n 0, 1)) rfl
theorem dL_law_2681 : decode cL_law 2681 = .ok (.iload 5, 2) := sl_row agL_41 gL_41 (i := 36) (r := (57, .iload 5, 2)) rfl
theorem dL_law_2683 : decode cL_law 2683 = .ok (.iconst 1, 1) := sl_row agL_41 gL_41 (i := 37) (r := (59, .iconst 1, 1)) rfl
theorem dL_law_2684 : decode cL_law 2684 = .ok (.iadd, 1) := sl_row agL_41 gL_41 (i := 38) (r := (60, .iadd, 1)) rfl
theorem dL_law_2685 : decode cL_law 2685 = .ok (.iaload, 1) := sl_row agL_41 gL_41 (i := 39) (r := (61, .iaload, 1)) rfl
theorem dL_law_2686 : decode cL_law 2686 = .ok (.aload_n 0, 1) := sl_row agL_41 gL_41 (i := 40) (r := (62, .aload_n 0, 1)) rfl
theorem dL_law_2687 : decode cL_law 2687 = .ok (.iload 5, 2) := sl_row agL_41 gL_41 (i := 41) (r := (63, .iload 5, 2)) rfl
def ck_42 : ByteArray := .mk #[0x05, 0x05, 0x60, 0x2e, 0x2d, 0xb8, 0x01, 0x1c, 0x36, 0x06, 0x2c, 0x2a, 0x15, 0x05, 0x04, 0x60, 0x2e, 0x2a, 0x15, 0x05, 0x05, 0x60, 0x2e, 0xb6, 0x01, 0x1e, 0x36, 0x07, 0x2c, 0xb6, 0x00, 0x95, 0x15, 0x06, 0x9f, 0x00, 0x05, 0x03, 0xac, 0x15, 0x06, 0x9a, 0x00, 0x16, 0x2d, 0x03, 0x2f, 0x15, 0x07, 0x99, 0x00, 0x07, 0x0a, 0xa7, 0x00, 0x04, 0x09, 0x94, 0x99, 0x00, 0x05, 0x03, 0xac, 0xa7, 0x00, 0xce, 0x2b, 0xb6]
set_option maxRecDepth 20000 in
theorem agL_42 : ∀ q, agB cL_law ck_42 (2688 + q) q := agB_of 2688 (by decide +kernel)
def tL_42 : List (Nat × Instr × Nat) := [(1, .iconst 2, 1), (2, .iadd, 1), (3, .iaload, 1), (4, .aload_n 3, 1), (5, .invokestatic 284, 3), (8, .istore 6, 2), (10, .aload_n 2, 1), (11, .aload_n 0, 1), (12, .iload 5, 2), (14, .iconst 1, 1), (15, .iadd, 1), (16, .iaload, 1), (17, .aload_n 0, 1), (18, .iload 5, 2), (20, .iconst 2, 1), (21, .iadd, 1), (22, .iaload, 1), (23, .invokevirtual 286, 3), (26, .istore 7, 2), (28, .aload_n 2, 1), (29, .invokevirtual 149, 3), (32, .iload 6, 2), (34, .if_icmp .eq 5, 3), (37, .iconst 0, 1), (38, .ireturn, 1), (39, .iload 6, 2), (41, .ifCond .ne 22, 3), (44, .aload_n 3, 1), (45, .iconst 0, 1), (46, .laload, 1), (47, .iload 7, 2), (49, .ifCond .eq 7, 3), (52, .lconst 1, 1), (53, .goto 4, 3), (56, .lconst 0, 1), (57, .lcmp, 1), (58, .ifCond .eq 5, 3), (61, .iconst 0, 1), (62, .ireturn, 1), (63, .goto 206, 3)]
theorem gL_42 : tL_42.all (fun r => opB ck_42 r.1 && decide (decode ck_42 r.1 = .ok (r.2.1, r.2.2))) = true := by decide +kernel
theorem dL_law_2689 : decode cL_law 2689 = .ok (.iconst 2, 1) := sl_row agL_42 gL_42 (i := 0) (r := (1, .iconst 2, 1)) rfl
theorem dL_law_2690 : decode cL_law 2690 = .ok (.iadd, 1) := sl_row agL_42 gL_42 (i := 1) (r := (2, .iadd, 1)) rfl
theorem dL_law_2691 : decode cL_law 2691 = .ok (.iaload, 1) := sl_row agL_42 gL_42 (i := 2) (r := (3, .iaload, 1)) rfl
theorem dL_law_2692 : decode cL_law 2692 = .ok (.aload_n 3, 1) := sl_row agL_42 gL_42 (i := 3) (r := (4, .aload_n 3, 1)) rfl
theorem dL_law_2693 : decode cL_law 2693 = .ok (.invokestatic 284, 3) := sl_row agL_42 gL_42 (i := 4) (r := (5, .invokestatic 284, 3)) rfl
theorem dL_law_2696 : decode cL_law 2696 = .ok (.istore 6, 2) := sl_row agL_42 gL_42 (i := 5) (r := (8, .istore 6, 2)) rfl
theorem dL_law_2698 : decode cL_law 2698 = .ok (.aload_n 2, 1) := sl_row agL_42 gL_42 (i := 6) (r := (10, .aload_n 2, 1)) rfl
theorem dL_law_2699 : decode cL_law 2699 = .ok (.aload_n 0, 1) := sl_row agL_42 gL_42 (i := 7) (r := (11, .aload_n 0, 1)) rfl
theorem dL_law_2700 : decode cL_law 2700 = .ok (.iload 5, 2) := sl_row agL_42 gL_42 (i := 8) (r := (12, .iload 5, 2)) rfl
theorem dL_law_2702 : decode cL_law 2702 = .ok (.iconst 1, 1) := sl_row agL_42 gL_42 (i := 9) (r := (14, .iconst 1, 1)) rfl
theorem dL_law_2703 : decode cL_law 2703 = .ok (.iadd, 1) := sl_row agL_42 gL_42 (i := 10) (r := (15, .iadd, 1)) rfl
theorem dL_law_2704 : decode cL_law 2704 = .ok (.iaload, 1) := sl_row agL_42 gL_42 (i := 11) (r := (16, .iaload, 1)) rfl
theorem dL_law_2705 : decode cL_law 2705 = .ok (.aload_n 0, 1) := sl_row agL_42 gL_42 (i := 12) (r := (17, .aload_n 0, 1)) rfl
theorem dL_law_2706 : decode cL_law 2706 = .ok (.iload 5, 2) := sl_row agL_42 gL_42 (i := 13) (r := (18, .iload 5, 2)) rfl
theorem dL_law_2708 : decode cL_law 2708 = .ok (.iconst 2, 1) := sl_row agL_42 gL_42 (i := 14) (r := (20, .iconst 2, 1)) rfl
theorem dL_law_2709 : decode cL_law 2709 = .ok (.iadd, 1) := sl_row agL_42 gL_42 (i := 15) (r := (21, .iadd, 1)) rfl
theorem dL_law_2710 : decode cL_law 2710 = .ok (.iaload, 1) := sl_row agL_42 gL_42 (i := 16) (r := (22, .iaload, 1)) rfl
theorem dL_law_2711 : decode cL_law 2711 = .ok (.invokevirtual 286, 3) := sl_row agL_42 gL_42 (i := 17) (r := (23, .invokevirtual 286, 3)) rfl
theorem dL_law_2714 : decode cL_law 2714 = .ok (.istore 7, 2) := sl_row agL_42 gL_42 (i := 18) (r := (26, .istore 7, 2)) rfl
theorem dL_law_2716 : decode cL_law 2716 = .ok (.aload_n 2, 1) := sl_row agL_42 gL_42 (i := 19) (r := (28, .aload_n 2, 1)) rfl
theorem dL_law_2717 : decode cL_law 2717 = .ok (.invokevirtual 149, 3) := sl_row agL_42 gL_42 (i := 20) (r := (29, .invokevirtual 149, 3)) rfl
theorem dL_law_2720 : decode cL_law 2720 = .ok (.iload 6, 2) := sl_row agL_42 gL_42 (i := 21) (r := (32, .iload 6, 2)) rfl
theorem dL_law_2722 : decode cL_law 2722 = .ok (.if_icmp .eq 5, 3) := sl_row agL_42 gL_42 (i := 22) (r := (34, .if_icmp .eq 5, 3)) rfl
theorem dL_law_2725 : decode cL_law 2725 = .ok (.iconst 0, 1) := sl_row agL_42 gL_42 (i := 23) (r := (37, .iconst 0, 1)) rfl
theorem dL_law_2726 : decode cL_law 2726 = .ok (.ireturn, 1) := sl_row agL_42 gL_42 (i := 24) (r := (38, .ireturn, 1)) rfl
theorem dL_law_2727 : decode cL_law 2727 = .ok (.iload 6, 2) := sl_row agL_42 gL_42 (i := 25) (r := (39, .iload 6, 2)) rfl
theorem dL_law_2729 : decode cL_law 2729 = .ok (.ifCond .ne 22, 3) := sl_row agL_42 gL_42 (i := 26) (r := (41, .ifCond .ne 22, 3)) rfl
theorem dL_law_2732 : decode cL_law 2732 = .ok (.aload_n 3, 1) := sl_row agL_42 gL_42 (i := 27) (r := (44, .aload_n 3, 1)) rfl
theorem dL_law_2733 : decode cL_law 2733 = .ok (.iconst 0, 1) := sl_row agL_42 gL_42 (i := 28) (r := (45, .iconst 0, 1)) rfl
theorem dL_law_2734 : decode cL_law 2734 = .ok (.laload, 1) := sl_row agL_42 gL_42 (i := 29) (r := (46, .laload, 1)) rfl
theorem dL_law_2735 : decode cL_law 2735 = .ok (.iload 7, 2) := sl_row agL_42 gL_42 (i := 30) (r := (47, .iload 7, 2)) rfl
theorem dL_law_2737 : decode cL_law 2737 = .ok (.ifCond .eq 7, 3) := sl_row agL_42 gL_42 (i := 31) (r := (49, .ifCond .eq 7, 3)) rfl
theorem dL_law_2740 : decode cL_law 2740 = .ok (.lconst 1, 1) := sl_row agL_42 gL_42 (i := 32) (r := (52, .lconst 1, 1)) rfl
theorem dL_law_2741 : decode cL_law 2741 = .ok (.goto 4, 3) := sl_row agL_42 gL_42 (i := 33) (r := (53, .goto 4, 3)) rfl
theorem dL_law_2744 : decode cL_law 2744 = .ok (.lconst 0, 1) := sl_row agL_42 gL_42 (i := 34) (r := (56, .lconst 0, 1)) rfl
theorem dL_law_2745 : decode cL_law 2745 = .ok (.lcmp, 1) := sl_row agL_42 gL_42 (i := 35) (r := (57, .lcmp, 1)) rfl
theorem dL_law_2746 : decode cL_law 2746 = .ok (.ifCond .eq 5, 3) := sl_row agL_42 gL_42 (i := 36) (r := (58, .ifCond .eq 5, 3)) rfl
theorem dL_law_2749 : decode cL_law 2749 = .ok (.iconst 0, 1) := sl_row agL_42 gL_42 (i := 37) (r := (61, .iconst 0, 1)) rfl
theorem dL_law_2750 : decode cL_law 2750 = .ok (.ireturn, 1) := sl_row agL_42 gL_42 (i := 38) (r := (62, .ireturn, 1)) rfl
theorem dL_law_2751 : decode cL_law 2751 = .ok (.goto 206, 3) := sl_row agL_42 gL_42 (i := 39) (r := (63, .goto 206, 3)) rfl
def ck_43 : ByteArray := .mk #[0x00, 0xce, 0x2b, 0xb6, 0x01, 0x1f, 0x2c, 0xb6, 0x01, 0x22, 0x9f, 0x00, 0xc3, 0x03, 0xac, 0x2b, 0x2d, 0xb8, 0x01, 0x23, 0x36, 0x06, 0x2c, 0xb6, 0x01, 0x26, 0x36, 0x07, 0x2c, 0xb6, 0x00, 0x95, 0x15, 0x06, 0x9f, 0x00, 0x05, 0x03, 0xac, 0x15, 0x06, 0x9a, 0x00, 0x0f, 0x2d, 0x03, 0x2f, 0x15, 0x07, 0x85, 0x94, 0x99, 0x00, 0x05, 0x03, 0xac, 0xa7, 0x00, 0x95, 0x2b, 0xb6, 0x01, 0x27, 0x2c, 0xb6, 0x01, 0x2a, 0x9f]
set_option maxRecDepth 20000 in
theorem agL_43 : ∀ q, agB cL_law ck_43 (2752 + q) q := agB_of 2752 (by decide +kernel)
def tL_43 : List (Nat × Instr × Nat) := [(2, .aload_n 1, 1), (3, .invokevirtual 287, 3), (6, .aload_n 2, 1), (7, .invokevirtual 290, 3), (10, .if_icmp .eq 195, 3), (13, .iconst 0, 1), (14, .ireturn, 1), (15, .aload_n 1, 1), (16, .aload_n 3, 1), (17, .invokestatic 291, 3), (20, .istore 6, 2), (22, .aload_n 2, 1), (23, .invokevirtual 294, 3), (26, .istore 7, 2), (28, .aload_n 2, 1), (29, .invokevirtual 149, 3), (32, .iload 6, 2), (34, .if_icmp .eq 5, 3), (37, .iconst 0, 1), (38, .ireturn, 1), (39, .iload 6, 2), (41, .ifCond .ne 15, 3), (44, .aload_n 3, 1), (45, .iconst 0, 1), (46, .laload, 1), (47, .iload 7, 2), (49, .i2l, 1), (50, .lcmp, 1), (51, .ifCond .eq 5, 3), (54, .iconst 0, 1), (55, .ireturn, 1), (56, .goto 149, 3), (59, .aload_n 1, 1), (60, .invokevirtual 295, 3), (63, .aload_n 2, 1)]
theorem gL_43 : tL_43.all (fun r => opB ck_43 r.1 && decide (decode ck_43 r.1 = .ok (r.2.1, r.2.2))) = true := by decide +kernel
theorem dL_law_2754 : decode cL_law 2754 = .ok (.aload_n 1, 1) := sl_row agL_43 gL_43 (i := 0) (r := (2, .aload_n 1, 1)) rfl
theorem dL_law_2755 : decode cL_law 2755 = .ok (.invokevirtual 287, 3) := sl_row agL_43 gL_43 (i := 1) (r := (3, .invokevirtual 287, 3)) rfl
theorem dL_law_2758 : decode cL_law 2758 = .ok (.aload_n 2, 1) := sl_row agL_43 gL_43 (i := 2) (r := (6, .aload_n 2, 1)) rfl
theorem dL_law_2759 : decode cL_law 2759 = .ok (.invokevirtual 290, 3) := sl_row agL_43 gL_43 (i := 3) (r := (7, .invokevirtual 290, 3)) rfl
theorem dL_law_2762 : decode cL_law 2762 = .ok (.if_icmp .eq 195, 3) := sl_row agL_43 gL_43 (i := 4) (r := (10, .if_icmp .eq 195, 3)) rfl
theorem dL_law_2765 : decode cL_law 2765 = .ok (.iconst 0, 1) := sl_row agL_43 gL_43 (i := 5) (r := (13, .iconst 0, 1)) rfl
theorem dL_law_2766 : decode cL_law 2766 = .ok (.ireturn, 1) := sl_row agL_43 gL_43 (i := 6) (r := (14, .ireturn, 1)) rfl
theorem dL_law_2767 : decode cL_law 2767 = .ok (.aload_n 1, 1) := sl_row agL_43 gL_43 (i := 7) (r := (15, .aload_n 1, 1)) rfl
theorem dL_law_2768 : decode cL_law 2768 = .ok (.aload_n 3, 1) := sl_row agL_43 gL_43 (i := 8) (r := (16, .aload_n 3, 1)) rfl
theorem dL_law_2769 : decode cL_law 2769 = .ok (.invokestatic 291, 3) := sl_row agL_43 gL_43 (i := 9) (r := (17, .invokestatic 291, 3)) rfl
theorem dL_law_2772 : decode cL_law 2772 = .ok (.istore 6, 2) := sl_row agL_43 gL_43 (i := 10) (r := (20, .istore 6, 2)) rfl
theorem dL_law_2774 : decode cL_law 2774 = .ok (.aload_n 2, 1) := sl_row agL_43 gL_43 (i := 11) (r := (22, .aload_n 2, 1)) rfl
theorem dL_law_2775 : decode cL_law 2775 = .ok (.invokevirtual 294, 3) := sl_row agL_43 gL_43 (i := 12) (r := (23, .invokevirtual 294, 3)) rfl
theorem dL_law_2778 : decode cL_law 2778 = .ok (.istore 7, 2) := sl_row agL_43 gL_43 (i := 13) (r := (26, .istore 7, 2)) rfl
theorem dL_law_2780 : decode cL_law 2780 = .ok (.aload_n 2, 1) := sl_row agL_43 gL_43 (i := 14) (r := (28, .aload_n 2, 1)) rfl
theorem dL_law_2781 : decode cL_law 2781 = .ok (.invokevirtual 149, 3) := sl_row agL_43 gL_43 (i := 15) (r := (29, .invokevirtual 149, 3)) rfl
theorem dL_law_2784 : decode cL_law 2784 = .ok (.iload 6, 2) := sl_row agL_43 gL_43 (i := 16) (r := (32, .iload 6, 2)) rfl
theorem dL_law_2786 : decode cL_law 2786 = .ok (.if_icmp .eq 5, 3) := sl_row agL_43 gL_43 (i := 17) (r := (34, .if_icmp .eq 5, 3)) rfl
theorem dL_law_2789 : decode cL_law 2789 = .ok (.iconst 0, 1) := sl_row agL_43 gL_43 (i := 18) (r := (37, .iconst 0, 1)) rfl
theorem dL_law_2790 : decode cL_law 2790 = .ok (.ireturn, 1) := sl_row agL_43 gL_43 (i := 19) (r := (38, .ireturn, 1)) rfl
theorem dL_law_2791 : decode cL_law 2791 = .ok (.iload 6, 2) := sl_row agL_43 gL_43 (i := 20) (r := (39, .iload 6, 2)) rfl
theorem dL_law_2793 : decode cL_law 2793 = .ok (.ifCond .ne 15, 3) := sl_row agL_43 gL_43 (i := 21) (r := (41, .ifCond .ne 15, 3)) rfl
theorem dL_law_2796 : decode cL_law 2796 = .ok (.aload_n 3, 1) := sl_row agL_43 gL_43 (i := 22) (r := (44, .aload_n 3, 1)) rfl
theorem dL_law_2797 : decode cL_law 2797 = .ok (.iconst 0, 1) := sl_row agL_43 gL_43 (i := 23) (r := (45, .iconst 0, 1)) rfl
theorem dL_law_2798 : decode cL_law 2798 = .ok (.laload, 1) := sl_row agL_43 gL_43 (i := 24) (r := (46, .laload, 1)) rfl
theorem dL_law_2799 : decode cL_law 2799 = .ok (.iload 7, 2) := sl_row agL_43 gL_43 (i := 25) (r := (47, .iload 7, 2)) rfl
theorem dL_law_2801 : decode cL_law 2801 = .ok (.i2l, 1) := sl_row agL_43 gL_43 (i := 26) (r := (49, .i2l, 1)) rfl
theorem dL_law_2802 : decode cL_law 2802 = .ok (.lcmp, 1) := sl_row agL_43 gL_43 (i := 27) (r := (50, .lcmp, 1)) rfl
theorem dL_law_2803 : decode cL_law 2803 = .ok (.ifCond .eq 5, 3) := sl_row agL_43 gL_43 (i := 28) (r := (51, .ifCond .eq 5, 3)) rfl
theorem dL_law_2806 : decode cL_law 2806 = .ok (.iconst 0, 1) := sl_row agL_43 gL_43 (i := 29) (r := (54, .iconst 0, 1)) rfl
theorem dL_law_2807 : decode cL_law 2807 = .ok (.ireturn, 1) := sl_row agL_43 gL_43 (i := 30) (r := (55, .ireturn, 1)) rfl
theorem dL_law_2808 : decode cL_law 2808 = .ok (.goto 149, 3) := sl_row agL_43 gL_43 (i := 31) (r := (56, .goto 149, 3)) rfl
theorem dL_law_2811 : decode cL_law 2811 = .ok (.aload_n 1, 1) := sl_row agL_43 gL_43 (i := 32) (r := (59, .aload_n 1, 1)) rfl
theorem dL_law_2812 : decode cL_law 2812 = .ok (.invokevirtual 295, 3) := sl_row agL_43 gL_43 (i := 33) (r := (60, .invokevirtual 295, 3)) rfl
theorem dL_law_2815 : decode cL_law 2815 = .ok (.aload_n 2, 1) := sl_row agL_43 gL_43 (i := 34) (r := (63, .aload_n 2, 1)) rfl
def ck_44 : ByteArray := .mk #[0xb6, 0x01, 0x2a, 0x9f, 0x00, 0x8a, 0x03, 0xac, 0x2b, 0x2a, 0x15, 0x05, 0x04, 0x60, 0x2e, 0x19, 0x04, 0xb8, 0x01, 0x2b, 0x36, 0x06, 0x2c, 0x2a, 0x15, 0x05, 0x04, 0x60, 0x2e, 0xb6, 0x01, 0x2e, 0x39, 0x07, 0x2c, 0xb6, 0x00, 0x95, 0x15, 0x06, 0x9f, 0x00, 0x05, 0x03, 0xac, 0x15, 0x06, 0x9a, 0x00, 0x23, 0x19, 0x04, 0x03, 0x31, 0x18, 0x07, 0x97, 0x99, 0x00, 0x19, 0x19, 0x04, 0x03, 0x31, 0x19, 0x04, 0x03, 0x31]
set_option maxRecDepth 20000 in
theorem agL_44 : ∀ q, agB cL_law ck_44 (2816 + q) q := agB_of 2816 (by decide +kernel)
def tL_44 : List (Nat × Instr × Nat) := [(0, .invokevirtual 298, 3), (3, .if_icmp .eq 138, 3), (6, .iconst 0, 1), (7, .ireturn, 1), (8, .aload_n 1, 1), (9, .aload_n 0, 1), (10, .iload 5, 2), (12, .iconst 1, 1), (13, .iadd, 1), (14, .iaload, 1), (15, .aload 4, 2), (17, .invokestatic 299, 3), (20, .istore 6, 2), (22, .aload_n 2, 1), (23, .aload_n 0, 1), (24, .iload 5, 2), (26, .iconst 1, 1), (27, .iadd, 1), (28, .iaload, 1), (29, .invokevirtual 302, 3), (32, .dstore 7, 2), (34, .aload_n 2, 1), (35, .invokevirtual 149, 3), (38, .iload 6, 2), (40, .if_icmp .eq 5, 3), (43, .iconst 0, 1), (44, .ireturn, 1), (45, .iload 6, 2), (47, .ifCond .ne 35, 3), (50, .aload 4, 2), (52, .iconst 0, 1), (53, .daload, 1), (54, .dload 7, 2), (56, .dcmp .l, 1), (57, .ifCond .eq 25, 3), (60, .aload 4, 2), (62, .iconst 0, 1), (63, .daload, 1)]
theorem gL_44 : tL_44.all (fun r => opB ck_44 r.1 && decide (decode ck_44 r.1 = .ok (r.2.1, r.2.2))) = true := by decide +kernel
theorem dL_law_2816 : decode cL_law 2816 = .ok (.invokevirtual 298, 3) := sl_row agL_44 gL_44 (i := 0) (r := (0, .invokevirtual 298, 3)) rfl
theorem dL_law_2819 : decode cL_law 2819 = .ok (.if_icmp .eq 138, 3) := sl_row agL_44 gL_44 (i := 1) (r := (3, .if_icmp .eq 138, 3)) rfl
theorem dL_law_2822 : decode cL_law 2822 = .ok (.iconst 0, 1) := sl_row agL_44 gL_44 (i := 2) (r := (6, .iconst 0, 1)) rfl
theorem dL_law_2823 : decode cL_law 2823 = .ok (.ireturn, 1) := sl_row agL_44 gL_44 (i := 3) (r := (7, .ireturn, 1)) rfl
theorem dL_law_2824 : decode cL_law 2824 = .ok (.aload_n 1, 1) := sl_row agL_44 gL_44 (i := 4) (r := (8, .aload_n 1, 1)) rfl
theorem dL_law_2825 : decode cL_law 2825 = .ok (.aload_n 0, 1) := sl_row agL_44 gL_44 (i := 5) (r := (9, .aload_n 0, 1)) rfl
theorem dL_law_2826 : decode cL_law 2826 = .ok (.iload 5, 2) := sl_row agL_44 gL_44 (i := 6) (r := (10, .iload 5, 2)) rfl
theorem dL_law_2828 : decode cL_law 2828 = .ok (.iconst 1, 1) := sl_row agL_44 gL_44 (i := 7) (r := (12, .iconst 1, 1)) rfl
theorem dL_law_2829 : decode cL_law 2829 = .ok (.iadd, 1) := sl_row agL_44 gL_44 (i := 8) (r := (13, .iadd, 1)) rfl
theorem dL_law_2830 : decode cL_law 2830 = .ok (.iaload, 1) := sl_row agL_44 gL_44 (i := 9) (r := (14, .iaload, 1)) rfl
theorem dL_law_2831 : decode cL_law 2831 = .ok (.aload 4, 2) := sl_row agL_44 gL_44 (i := 10) (r := (15, .aload 4, 2)) rfl
theorem dL_law_2833 : decode cL_law 2833 = .ok (.invokestatic 299, 3) := sl_row agL_44 gL_44 (i := 11) (r := (17, .invokestatic 299, 3)) rfl
theorem dL_law_2836 : decode cL_law 2836 = .ok (.istore 6, 2) := sl_row agL_44 gL_44 (i := 12) (r := (20, .istore 6, 2)) rfl
theorem dL_law_2838 : decode cL_law 2838 = .ok (.aload_n 2, 1) := sl_row agL_44 gL_44 (i := 13) (r := (22, .aload_n 2, 1)) rfl
theorem dL_law_2839 : decode cL_law 2839 = .ok (.aload_n 0, 1) := sl_row agL_44 gL_44 (i := 14) (r := (23, .aload_n 0, 1)) rfl
theorem dL_law_2840 : decode cL_law 2840 = .ok (.iload 5, 2) := sl_row agL_44 gL_44 (i := 15) (r := (24, .iload 5, 2)) rfl
theorem dL_law_2842 : decode cL_law 2842 = .ok (.iconst 1, 1) := sl_row agL_44 gL_44 (i := 16) (r := (26, .iconst 1, 1)) rfl
theorem dL_law_2843 : decode cL_law 2843 = .ok (.iadd, 1) := sl_row agL_44 gL_44 (i := 17) (r := (27, .iadd, 1)) rfl
theorem dL_law_2844 : decode cL_law 2844 = .ok (.iaload, 1) := sl_row agL_44 gL_44 (i := 18) (r := (28, .iaload, 1)) rfl
theorem dL_law_2845 : decode cL_law 2845 = .ok (.invokevirtual 302, 3) := sl_row agL_44 gL_44 (i := 19) (r := (29, .invokevirtual 302, 3)) rfl
theorem dL_law_2848 : decode cL_law 2848 = .ok (.dstore 7, 2) := sl_row agL_44 gL_44 (i := 20) (r := (32, .dstore 7, 2)) rfl
theorem dL_law_2850 : decode cL_law 2850 = .ok (.aload_n 2, 1) := sl_row agL_44 gL_44 (i := 21) (r := (34, .aload_n 2, 1)) rfl
theorem dL_law_2851 : decode cL_law 2851 = .ok (.invokevirtual 149, 3) := sl_row agL_44 gL_44 (i := 22) (r := (35, .invokevirtual 149, 3)) rfl
theorem dL_law_2854 : decode cL_law 2854 = .ok (.iload 6, 2) := sl_row agL_44 gL_44 (i := 23) (r := (38, .iload 6, 2)) rfl
theorem dL_law_2856 : decode cL_law 2856 = .ok (.if_icmp .eq 5, 3) := sl_row agL_44 gL_44 (i := 24) (r := (40, .if_icmp .eq 5, 3)) rfl
theorem dL_law_2859 : decode cL_law 2859 = .ok (.iconst 0, 1) := sl_row agL_44 gL_44 (i := 25) (r := (43, .iconst 0, 1)) rfl
theorem dL_law_2860 : decode cL_law 2860 = .ok (.ireturn, 1) := sl_row agL_44 gL_44 (i := 26) (r := (44, .ireturn, 1)) rfl
theorem dL_law_2861 : decode cL_law 2861 = .ok (.iload 6, 2) := sl_row agL_44 gL_44 (i := 27) (r := (45, .iload 6, 2)) rfl
theorem dL_law_2863 : decode cL_law 2863 = .ok (.ifCond .ne 35, 3) := sl_row agL_44 gL_44 (i := 28) (r := (47, .ifCond .ne 35, 3)) rfl
theorem dL_law_2866 : decode cL_law 2866 = .ok (.aload 4, 2) := sl_row agL_44 gL_44 (i := 29) (r := (50, .aload 4, 2)) rfl
theorem dL_law_2868 : decode cL_law 2868 = .ok (.iconst 0, 1) := sl_row agL_44 gL_44 (i := 30) (r := (52, .iconst 0, 1)) rfl
theorem dL_law_2869 : decode cL_law 2869 = .ok (.daload, 1) := sl_row agL_44 gL_44 (i := 31) (r := (53, .daload, 1)) rfl
theorem dL_law_2870 : decode cL_law 2870 = .ok (.dload 7, 2) := sl_row agL_44 gL_44 (i := 32) (r := (54, .dload 7, 2)) rfl
theorem dL_law_2872 : decode cL_law 2872 = .ok (.dcmp .l, 1) := sl_row agL_44 gL_44 (i := 33) (r := (56, .dcmp .l, 1)) rfl
theorem dL_law_2873 : decode cL_law 2873 = .ok (.ifCond .eq 25, 3) := sl_row agL_44 gL_44 (i := 34) (r := (57, .ifCond .eq 25, 3)) rfl
theorem dL_law_2876 : decode cL_law 2876 = .ok (.aload 4, 2) := sl_row agL_44 gL_44 (i := 35) (r := (60, .aload 4, 2)) rfl
theorem dL_law_2878 : decode cL_law 2878 = .ok (.iconst 0, 1) := sl_row agL_44 gL_44 (i := 36) (r := (62, .iconst 0, 1)) rfl
theorem dL_law_2879 : decode cL_law 2879 = .ok (.daload, 1) := sl_row agL_44 gL_44 (i := 37) (r := (63, .daload, 1)) rfl
def ck_45 : ByteArray := .mk #[0x19, 0x04, 0x03, 0x31, 0x97, 0x99, 0x00, 0x0b, 0x18, 0x07, 0x18, 0x07, 0x97, 0x9a, 0x00, 0x05, 0x03, 0xac, 0xa7, 0x00, 0x3b, 0x2b, 0xb6, 0x01, 0x2f, 0x8d, 0x39, 0x06, 0x2c, 0xb6, 0x01, 0x33, 0x8d, 0x39, 0x08, 0x18, 0x06, 0x18, 0x08, 0x97, 0x99, 0x00, 0x15, 0x18, 0x06, 0x18, 0x06, 0x97, 0x99, 0x00, 0x0b, 0x18, 0x08, 0x18, 0x08, 0x97, 0x9a, 0x00, 0x05, 0x03, 0xac, 0xa7, 0x00, 0x10, 0x2b, 0xb6, 0x01, 0x34]
set_option maxRecDepth 20000 in
theorem agL_45 : ∀ q, agB cL_law ck_45 (2880 + q) q := agB_of 2880 (by decide +kernel)
def tL_45 : List (Nat × Instr × Nat) := [(0, .aload 4, 2), (2, .iconst 0, 1), (3, .daload, 1), (4, .dcmp .l, 1), (5, .ifCond .eq 11, 3), (8, .dload 7, 2), (10, .dload 7, 2), (12, .dcmp .l, 1), (13, .ifCond .ne 5, 3), (16, .iconst 0, 1), (17, .ireturn, 1), (18, .goto 59, 3), (21, .aload_n 1, 1), (22, .invokevirtual 303, 3), (25, .f2d, 1), (26, .dstore 6, 2), (28, .aload_n 2, 1), (29, .invokevirtual 307, 3), (32, .f2d, 1), (33, .dstore 8, 2), (35, .dload 6, 2), (37, .dload 8, 2), (39, .dcmp .l, 1), (40, .ifCond .eq 21, 3), (43, .dload 6, 2), (45, .dload 6, 2), (47, .dcmp .l, 1), (48, .ifCond .eq 11, 3), (51, .dload 8, 2), (53, .dload 8, 2), (55, .dcmp .l, 1), (56, .ifCond .ne 5, 3), (59, .iconst 0, 1), (60, .ireturn, 1), (61, .goto 16, 3)]
theorem gL_45 : tL_45.all (fun r => opB ck_45 r.1 && decide (decode ck_45 r.1 = .ok (r.2.1, r.2.2))) = true := by decide +kernel
theorem dL_law_2880 : decode cL_law 2880 = .ok (.aload 4, 2) := sl_row agL_45 gL_45 (i := 0) (r := (0, .aload 4, 2)) rfl
theorem dL_law_2882 : decode cL_law 2882 = .ok (.iconst 0, 1) := sl_row agL_45 gL_45 (i := 1) (r := (2, .iconst 0, 1)) rfl
theorem dL_law_2883 : decode cL_law 2883 = .ok (.daload, 1) := sl_row agL_45 gL_45 (i := 2) (r := (3, .daload, 1)) rfl
theorem dL_law_2884 : decode cL_law 2884 = .ok (.dcmp .l, 1) := sl_row agL_45 gL_45 (i := 3) (r := (4, .dcmp .l, 1)) rfl
theorem dL_law_2885 : decode cL_law 2885 = .ok (.ifCond .eq 11, 3) := sl_row agL_45 gL_45 (i := 4) (r := (5, .ifCond .eq 11, 3)) rfl
theorem dL_law_2888 : decode cL_law 2888 = .ok (.dload 7, 2) := sl_row agL_45 gL_45 (i := 5) (r := (8, .dload 7, 2)) rfl
theorem dL_law_2890 : decode cL_law 2890 = .ok (.dload 7, 2) := sl_row agL_45 gL_45 (i := 6) (r := (10, .dload 7, 2)) rfl
theorem dL_law_2892 : decode cL_law 2892 = .ok (.dcmp .l, 1) := sl_row agL_45 gL_45 (i := 7) (r := (12, .dcmp .l, 1)) rfl
theorem dL_law_2893 : decode cL_law 2893 = .ok (.ifCond .ne 5, 3) := sl_row agL_45 gL_45 (i := 8) (r := (13, .ifCond .ne 5, 3)) rfl
theorem dL_law_2896 : decode cL_law 2896 = .ok (.iconst 0, 1) := sl_row agL_45 gL_45 (i := 9) (r := (16, .iconst 0, 1)) rfl
theorem dL_law_2897 : decode cL_law 2897 = .ok (.ireturn, 1) := sl_row agL_45 gL_45 (i := 10) (r := (17, .ireturn, 1)) rfl
theorem dL_law_2898 : decode cL_law 2898 = .ok (.goto 59, 3) := sl_row agL_45 gL_45 (i := 11) (r := (18, .goto 59, 3)) rfl
theorem dL_law_2901 : decode cL_law 2901 = .ok (.aload_n 1, 1) := sl_row agL_45 gL_45 (i := 12) (r := (21, .aload_n 1, 1)) rfl
theorem dL_law_2902 : decode cL_law 2902 = .ok (.invokevirtual 303, 3) := sl_row agL_45 gL_45 (i := 13) (r := (22, .invokevirtual 303, 3)) rfl
theorem dL_law_2905 : decode cL_law 2905 = .ok (.f2d, 1) := sl_row agL_45 gL_45 (i := 14) (r := (25, .f2d, 1)) rfl
theorem dL_law_2906 : decode cL_law 2906 = .ok (.dstore 6, 2) := sl_row agL_45 gL_45 (i := 15) (r := (26, .dstore 6, 2)) rfl
theorem dL_law_2908 : decode cL_law 2908 = .ok (.aload_n 2, 1) := sl_row agL_45 gL_45 (i := 16) (r := (28, .aload_n 2, 1)) rfl
theorem dL_law_2909 : decode cL_law 2909 = .ok (.invokevirtual 307, 3) := sl_row agL_45 gL_45 (i := 17) (r := (29, .invokevirtual 307, 3)) rfl
theorem dL_law_2912 : decode cL_law 2912 = .ok (.f2d, 1) := sl_row agL_45 gL_45 (i := 18) (r := (32, .f2d, 1)) rfl
theorem dL_law_2913 : decode cL_law 2913 = .ok (.dstore 8, 2) := sl_row agL_45 gL_45 (i := 19) (r := (33, .dstore 8, 2)) rfl
theorem dL_law_2915 : decode cL_law 2915 = .ok (.dload 6, 2) := sl_row agL_45 gL_45 (i := 20) (r := (35, .dload 6, 2)) rfl
theorem dL_law_2917 : decode cL_law 2917 = .ok (.dload 8, 2) := sl_row agL_45 gL_45 (i := 21) (r := (37, .dload 8, 2)) rfl
theorem dL_law_2919 : decode cL_law 2919 = .ok (.dcmp .l, 1) := sl_row agL_45 gL_45 (i := 22) (r := (39, .dcmp .l, 1)) rfl
theorem dL_law_2920 : decode cL_law 2920 = .ok (.ifCond .eq 21, 3) := sl_row agL_45 gL_45 (i := 23) (r := (40, .ifCond .eq 21, 3)) rfl
theorem dL_law_2923 : decode cL_law 2923 = .ok (.dload 6, 2) := sl_row agL_45 gL_45 (i := 24) (r := (43, .dload 6, 2)) rfl
theorem dL_law_2925 : decode cL_law 2925 = .ok (.dload 6, 2) := sl_row agL_45 gL_45 (i := 25) (r := (45, .dload 6, 2)) rfl
theorem dL_law_2927 : decode cL_law 2927 = .ok (.dcmp .l, 1) := sl_row agL_45 gL_45 (i := 26) (r := (47, .dcmp .l, 1)) rfl
theorem dL_law_2928 : decode cL_law 2928 = .ok (.ifCond .eq 11, 3) := sl_row agL_45 gL_45 (i := 27) (r := (48, .ifCond .eq 11, 3)) rfl
theorem dL_law_2931 : decode cL_law 2931 = .ok (.dload 8, 2) := sl_row agL_45 gL_45 (i := 28) (r := (51, .dload 8, 2)) rfl
theorem dL_law_2933 : decode cL_law 2933 = .ok (.dload 8, 2) := sl_row agL_45 gL_45 (i := 29) (r := (53, .dload 8, 2)) rfl
theorem dL_law_2935 : decode cL_law 2935 = .ok (.dcmp .l, 1) := sl_row agL_45 gL_45 (i := 30) (r := (55, .dcmp .l, 1)) rfl
theorem dL_law_2936 : decode cL_law 2936 = .ok (.ifCond .ne 5, 3) := sl_row agL_45 gL_45 (i := 31) (r := (56, .ifCond .ne 5, 3)) rfl
theorem dL_law_2939 : decode cL_law 2939 = .ok (.iconst 0, 1) := sl_row agL_45 gL_45 (i := 32) (r := (59, .iconst 0, 1)) rfl
theorem dL_law_2940 : decode cL_law 2940 = .ok (.ireturn, 1) := sl_row agL_45 gL_45 (i := 33) (r := (60, .ireturn, 1)) rfl
theorem dL_law_2941 : decode cL_law 2941 = .ok (.goto 16, 3) := sl_row agL_45 gL_45 (i := 34) (r := (61, .goto 16, 3)) rfl
def ck_46 : ByteArray := .mk #[0x2b, 0xb6, 0x01, 0x34, 0x2c, 0xb6, 0x01, 0x37, 0x9f, 0x00, 0x05, 0x03, 0xac, 0x84, 0x05, 0x05, 0xa7, 0xf4, 0x8c, 0x04, 0xac]
set_option maxRecDepth 20000 in
theorem agL_46 : ∀ q, agB cL_law ck_46 (2944 + q) q := agB_of 2944 (by decide +kernel)
def tL_46 : List (Nat × Instr × Nat) := [(0, .aload_n 1, 1), (1, .invokevirtual 308, 3), (4, .aload_n 2, 1), (5, .invokevirtual 311, 3), (8, .if_icmp .eq 5, 3), (11, .iconst 0, 1), (12, .ireturn, 1), (13, .iinc 5 5, 3), (16, .goto (-2932), 3), (19, .iconst 1, 1), (20, .ireturn, 1)]
theorem gL_46 : tL_46.all (fun r => opB ck_46 r.1 && decide (decode ck_46 r.1 = .ok (r.2.1, r.2.2))) = true := by decide +kernel
theorem dL_law_2944 : decode cL_law 2944 = .ok (.aload_n 1, 1) := sl_row agL_46 gL_46 (i := 0) (r := (0, .aload_n 1, 1)) rfl
theorem dL_law_2945 : decode cL_law 2945 = .ok (.invokevirtual 308, 3) := sl_row agL_46 gL_46 (i := 1) (r := (1, .invokevirtual 308, 3)) rfl
theorem dL_law_2948 : decode cL_law 2948 = .ok (.aload_n 2, 1) := sl_row agL_46 gL_46 (i := 2) (r := (4, .aload_n 2, 1)) rfl
theorem dL_law_2949 : decode cL_law 2949 = .ok (.invokevirtual 311, 3) := sl_row agL_46 gL_46 (i := 3) (r := (5, .invokevirtual 311, 3)) rfl
theorem dL_law_2952 : decode cL_law 2952 = .ok (.if_icmp .eq 5, 3) := sl_row agL_46 gL_46 (i := 4) (r := (8, .if_icmp .eq 5, 3)) rfl
theorem dL_law_2955 : decode cL_law 2955 = .ok (.iconst 0, 1) := sl_row agL_46 gL_46 (i := 5) (r := (11, .iconst 0, 1)) rfl
theorem dL_law_2956 : decode cL_law 2956 = .ok (.ireturn, 1) := sl_row agL_46 gL_46 (i := 6) (r := (12, .ireturn, 1)) rfl
theorem dL_law_2957 : decode cL_law 2957 = .ok (.iinc 5 5, 3) := sl_row agL_46 gL_46 (i := 7) (r := (13, .iinc 5 5, 3)) rfl
theorem dL_law_2960 : decode cL_law 2960 = .ok (.goto (-2932), 3) := sl_row agL_46 gL_46 (i := 8) (r := (16, .goto (-2932), 3)) rfl
theorem dL_law_2963 : decode cL_law 2963 = .ok (.iconst 1, 1) := sl_row agL_46 gL_46 (i := 9) (r := (19, .iconst 1, 1)) rfl
theorem dL_law_2964 : decode cL_law 2964 = .ok (.ireturn, 1) := sl_row agL_46 gL_46 (i := 10) (r := (20, .ireturn, 1)) rfl
