/-! A long body is decoded piece by piece: what an instruction is depends on its own bytes alone -/
abbrev rdX (α : Type) : Type := Reader DecodeError α
theorem u1_ok {c : ByteArray} {p : Nat} (h : p < c.size) : (Reader.u1 : rdX Nat) c p = .ok ((c[p]).toNat, p+1) := by
  unfold Reader.u1
  show (dite (p < c.size) (fun h => ((do set (p+1); Pure.pure (c[p]).toNat) : rdX Nat)) (fun _ => (throw (HasTruncated.truncated p) : rdX Nat))) c p = _
  rw [dif_pos h]
  rfl
theorem u1_no {c : ByteArray} {p : Nat} (h : ¬ p < c.size) : (Reader.u1 : rdX Nat) c p = .error (HasTruncated.truncated p) := by
  unfold Reader.u1
  show (dite (p < c.size) (fun h => ((do set (p+1); Pure.pure (c[p]).toNat) : rdX Nat)) (fun _ => (throw (HasTruncated.truncated p) : rdX Nat))) c p = _
  rw [dif_neg h]
  rfl
/-- from p on the bytes c begin as c' from q on -/
def agB (c c' : ByteArray) (p q : Nat) : Prop := ∀ i, q + i < c'.size → p + i < c.size ∧ c[p + i]? = c'[q + i]?
def Sm {α : Type} (r1 r2 : rdX α) : Prop := ∀ (c c' : ByteArray) (p q : Nat) (a : α) (q' : Nat), agB c c' p q → r2 c' q = .ok (a, q') → ∃ n, q' = q + n ∧ r1 c p = .ok (a, p + n)
def SmO (ops : List Nat) {α : Type} (r1 r2 : rdX α) : Prop := ∀ (c c' : ByteArray) (p q : Nat) (a : α) (q' : Nat), agB c c' p q → (∃ h : q < c'.size, (c'[q]).toNat ∈ ops) → r2 c' q = .ok (a, q') → ∃ n, q' = q + n ∧ r1 c p = .ok (a, p + n)
theorem agB.go {c c' : ByteArray} {p q : Nat} (h : agB c c' p q) (n : Nat) : agB c c' (p + n) (q + n) := fun i hi => by
  have := h (n + i) (by omega)
  rw [Nat.add_assoc, Nat.add_assoc]
  exact this
theorem agB.at {c c' : ByteArray} {p q : Nat} (h : agB c c' p q) (h2 : q < c'.size) : ∃ h1 : p < c.size, c[p] = c'[q] := by
  obtain ⟨x, y⟩ := h 0 h2
  refine ⟨x, ?_⟩
  rw [getElem?_pos c (p + 0) x, getElem?_pos c' (q + 0) h2] at y
  exact Option.some.inj y
theorem Sm_u1 : Sm (Reader.u1 : rdX Nat) Reader.u1 := fun c c' p q a q' ha hr => by
  by_cases h : q < c'.size
  · rw [u1_ok h] at hr
    obtain ⟨h1, e⟩ := ha.at h
    cases hr
    exact ⟨1, rfl, by rw [u1_ok h1, e]⟩
  · rw [u1_no h] at hr
    cases hr
theorem Sm_pure {α : Type} (a : α) : Sm (Pure.pure a : rdX α) (Pure.pure a) := fun c c' p q a' q' ha hr => by
  cases hr
  exact ⟨0, rfl, rfl⟩
theorem Sm_bind {α β : Type} {r1 r2 : rdX α} {f1 f2 : α → rdX β} (hr : Sm r1 r2) (hf : ∀ a, Sm (f1 a) (f2 a)) : Sm (r1 >>= f1) (r2 >>= f2) := fun c c' p q b q' ha h => by
  have h' : (Except.bind (r2 c' q) fun x => f2 x.1 c' x.2) = .ok (b, q') := h
  show ∃ n, q' = q + n ∧ (Except.bind (r1 c p) fun x => f1 x.1 c x.2) = .ok (b, p + n)
  cases e : r2 c' q with
  | error x =>
    rw [e] at h'
    cases h'
  | ok x =>
    obtain ⟨a, q1⟩ := x
    rw [e] at h'
    obtain ⟨n, rfl, e1⟩ := hr c c' p q a q1 ha e
    obtain ⟨m, rfl, e2⟩ := hf a c c' (p + n) (q + n) b q' (ha.go n) h'
    rw [e1]
    exact ⟨n + m, Nat.add_assoc _ _ _, by rw [← Nat.add_assoc]; exact e2⟩
theorem Sm_map {α β : Type} {r1 r2 : rdX α} (f : α → β) (hr : Sm r1 r2) : Sm (f <$> r1) (f <$> r2) := fun c c' p q b q' ha h => by
  have h' : (Except.bind (r2 c' q) fun x => .ok (f x.1, x.2)) = .ok (b, q') := h
  show ∃ n, q' = q + n ∧ (Except.bind (r1 c p) fun x => .ok (f x.1, x.2)) = .ok (b, p + n)
  cases e : r2 c' q with
  | error x =>
    rw [e] at h'
    cases h'
  | ok x =>
    obtain ⟨a, q1⟩ := x
    rw [e] at h'
    obtain ⟨n, rfl, e1⟩ := hr c c' p q a q1 ha e
    cases h'
    rw [e1]
    exact ⟨n, rfl, rfl⟩
theorem Sm_u2 : Sm (Reader.u2 : rdX Nat) Reader.u2 := Sm_bind Sm_u1 fun _ => Sm_bind Sm_u1 fun _ => Sm_pure _
theorem Sm_s1 : Sm (Reader.s1 : rdX Int) Reader.s1 := Sm_map _ Sm_u1
theorem Sm_s2 : Sm (Reader.s2 : rdX Int) Reader.s2 := Sm_map _ Sm_u2
theorem SmO_first {α : Type} {f1 f2 : Nat → rdX α} (ops : List Nat) (H : ∀ op ∈ ops, Sm (f1 op) (f2 op)) : SmO ops (Reader.u1 >>= f1) (Reader.u1 >>= f2) := fun c c' p q b q' ha ho h => by
  obtain ⟨h2, hop⟩ := ho
  have h' : (Except.bind ((Reader.u1 : rdX Nat) c' q) fun x => f2 x.1 c' x.2) = .ok (b, q') := h
  show ∃ n, q' = q + n ∧ (Except.bind ((Reader.u1 : rdX Nat) c p) fun x => f1 x.1 c x.2) = .ok (b, p + n)
  obtain ⟨h1, e⟩ := ha.at h2
  rw [u1_ok h2] at h'
  obtain ⟨m, rfl, e2⟩ := H _ hop c c' (p + 1) (q + 1) b q' (ha.go 1) h'
  rw [u1_ok h1, e]
  exact ⟨1 + m, Nat.add_assoc _ _ _, by rw [← Nat.add_assoc]; exact e2⟩
abbrev lwOps : List Nat := [0, 1, 2, 3, 4, 5, 6, 7, 8, 9, 10, 11, 12, 16, 17, 18, 21, 22, 25, 26, 27, 28, 29, 30, 31, 32, 33, 42, 43, 44, 45, 46, 54, 55, 58, 59, 60, 61, 62, 63, 64, 65, 66, 75, 76, 77, 78, 79, 87, 89, 96, 97, 100, 101, 104, 105, 108, 112, 116, 124, 126, 128, 130, 132, 133, 148, 149, 150, 153, 154, 155, 156, 157, 158, 159, 160, 161, 162, 163, 164, 167, 172, 177, 180, 181, 182, 183, 184, 187, 190]
set_option maxRecDepth 20000 in
theorem Sm_instr (p q : Nat) : SmO lwOps (Decoder.instr p) (Decoder.instr q) := by
  unfold Decoder.instr
  refine SmO_first _ ?_
  repeat' (first | exact fun op h => absurd h List.not_mem_nil | refine List.forall_mem_cons.mpr ⟨?_, ?_⟩)
  all_goals first
    | exact Sm_pure _
    | exact Sm_bind Sm_u1 fun _ => Sm_pure _
    | exact Sm_bind Sm_s2 fun _ => Sm_pure _
    | exact Sm_bind Sm_u2 fun _ => Sm_pure _
    | exact Sm_bind Sm_s1 fun _ => Sm_pure _
    | exact Sm_bind Sm_u1 fun _ => Sm_bind Sm_s1 fun _ => Sm_pure _
theorem dec_sm {c c' : ByteArray} {p q : Nat} {i : Instr} {n : Nat} (ha : agB c c' p q) (ho : ∃ h : q < c'.size, (c'[q]).toNat ∈ lwOps) (h : decode c' q = .ok (i, n)) : decode c p = .ok (i, n) := by
  have h' : (Except.bind ((Decoder.instr q) c' q) fun x => .ok (x.1, x.2 - q)) = .ok (i, n) := h
  show (Except.bind ((Decoder.instr p) c p) fun x => .ok (x.1, x.2 - p)) = .ok (i, n)
  cases e : (Decoder.instr q) c' q with
  | error x =>
    rw [e] at h'
    cases h'
  | ok x =>
    obtain ⟨a, q1⟩ := x
    rw [e] at h'
    obtain ⟨m, rfl, e1⟩ := Sm_instr p q c c' p q a q1 ha ho e
    rw [e1]
    have h9 : (Except.ok (a, q + m - q) : Except DecodeError (Instr × Nat)) = .ok (i, n) := h'
    show (Except.ok (a, p + m - p) : Except DecodeError (Instr × Nat)) = .ok (i, n)
    rw [← h9, Nat.add_sub_cancel_left, Nat.add_sub_cancel_left]
theorem agB_of {c c' : ByteArray} (o : Nat) (h : (c.data.toList.drop o).take c'.data.toList.length = c'.data.toList) (q : Nat) : agB c c' (o + q) q := fun i hi => by
  have hj : q + i < c'.data.toList.length := by rw [Array.length_toList]; exact hi
  have e00 : ((c.data.toList.drop o).take c'.data.toList.length)[q + i]? = (c.data.toList.drop o)[q + i]? := List.getElem?_take_of_lt hj
  rw [h] at e00
  have e1 : c'.data.toList[q + i]? = c.data.toList[o + (q + i)]? := e00.trans List.getElem?_drop
  have e2 := List.getElem?_eq_getElem hj
  have e3 : o + (q + i) < c.data.toList.length := (List.getElem?_eq_some_iff.mp (e1.symm.trans e2)).1
  have e4 := List.getElem?_eq_getElem e3
  have e5 : o + q + i < c.size := by rw [Nat.add_assoc]; rw [Array.length_toList] at e3; exact e3
  refine ⟨e5, ?_⟩
  rw [getElem?_pos c _ e5, getElem?_pos c' _ hi]
  have e6 := e4.symm.trans (e1.symm.trans e2)
  have e7 := Option.some.inj e6
  refine congrArg some ?_
  show c.data[o + q + i] = c'.data[q + i]
  rw [← Array.getElem_toList, ← Array.getElem_toList]
  simp only [Nat.add_assoc]
  exact e7
def opB (c : ByteArray) (q : Nat) : Bool := match c.data.toList[q]? with
  | some b => lwOps.contains b.toNat
  | none => false
theorem opB_of {c : ByteArray} {q : Nat} (h : opB c q = true) : ∃ h : q < c.size, (c[q]).toNat ∈ lwOps := by
  unfold opB at h
  split at h
  · rename_i b hb
    obtain ⟨h1, h2⟩ := List.getElem?_eq_some_iff.mp hb
    have h3 : q < c.size := by rw [Array.length_toList] at h1; exact h1
    refine ⟨h3, ?_⟩
    have h4 : c[q] = b := by
      show c.data[q] = b
      rw [← Array.getElem_toList]
      exact h2
    rw [h4]
    exact List.contains_iff_mem.mp h
  · cases h
theorem sl_row {c : ByteArray} {T : List (Nat × Instr × Nat)} {c' : ByteArray} {o : Nat} (ha : ∀ q, agB c c' (o + q) q) (h : T.all (fun r => opB c' r.1 && decide (decode c' r.1 = .ok (r.2.1, r.2.2))) = true) {i : Nat} {r : Nat × Instr × Nat} (hr : T[i]? = some r) : decode c (o + r.1) = .ok (r.2.1, r.2.2) := by
  have h2 := List.all_eq_true.mp h _ (List.mem_of_getElem? hr)
  obtain ⟨a, b⟩ := (Bool.and_eq_true_iff).mp h2
  exact dec_sm (ha r.1) (opB_of a) (of_decide_eq_true b)

def ck_come_0 : ByteArray := .mk #[0x2a, 0x08, 0x2a, 0x10, 0x16, 0xb6, 0x00, 0x36, 0x60, 0xb5, 0x00, 0x39, 0x2a, 0xb6, 0x00, 0x3c, 0x3c, 0x2a, 0x07, 0xb6, 0x00, 0x36, 0x9a, 0x00, 0x07, 0x04, 0xa7, 0x00, 0x04, 0x1b, 0x3d, 0x04, 0x2a, 0x06, 0xb6, 0x00, 0x36, 0x60, 0x3e, 0x03, 0x36, 0x04, 0x15, 0x04, 0x2a, 0xb4, 0x00, 0x39, 0xa2, 0x00, 0x8f, 0x2a, 0xb4, 0x00, 0x10, 0x15, 0x04, 0x2a, 0x1d, 0xb6, 0x00, 0x36, 0x4f, 0x15, 0x04, 0x9e, 0x00, 0x10]
set_option maxRecDepth 20000 in
theorem ag_come_0 : ∀ q, agB cL_come ck_come_0 (0 + q) q := agB_of 0 (by decide +kernel)
def tl_come_0 : List (Nat × Instr × Nat) := [(0, .aload_n 0, 1), (1, .iconst 5, 1), (2, .aload_n 0, 1), (3, .bipush 22, 2), (5, .invokevirtual 54, 3), (8, .iadd, 1), (9, .putfield 57, 3), (12, .aload_n 0, 1), (13, .invokevirtual 60, 3), (16, .istore_n 1, 1), (17, .aload_n 0, 1), (18, .iconst 4, 1), (19, .invokevirtual 54, 3), (22, .ifCond .ne 7, 3), (25, .iconst 1, 1), (26, .goto 4, 3), (29, .iload_n 1, 1), (30, .istore_n 2, 1), (31, .iconst 1, 1), (32, .aload_n 0, 1), (33, .iconst 3, 1), (34, .invokevirtual 54, 3), (37, .iadd, 1), (38, .istore_n 3, 1), (39, .iconst 0, 1), (40, .istore 4, 2), (42, .iload 4, 2), (44, .aload_n 0, 1), (45, .getfield 57, 3), (48, .if_icmp .ge 143, 3), (51, .aload_n 0, 1), (52, .getfield 16, 3), (55, .iload 4, 2), (57, .aload_n 0, 1), (58, .iload_n 3, 1), (59, .invokevirtual 54, 3), (62, .iastore, 1), (63, .iload 4, 2)]
theorem gl_come_0 : tl_come_0.all (fun r => opB ck_come_0 r.1 && decide (decode ck_come_0 r.1 = .ok (r.2.1, r.2.2))) = true := by decide +kernel
theorem dL_come_0 : decode cL_come 0 = .ok (.aload_n 0, 1) := sl_row ag_come_0 gl_come_0 (i := 0) (r := (0, .aload_n 0, 1)) rfl
theorem dL_come_1 : decode cL_come 1 = .ok (.iconst 5, 1) := sl_row ag_come_0 gl_come_0 (i := 1) (r := (1, .iconst 5, 1)) rfl
theorem dL_come_2 : decode cL_come 2 = .ok (.aload_n 0, 1) := sl_row ag_come_0 gl_come_0 (i := 2) (r := (2, .aload_n 0, 1)) rfl
theorem dL_come_3 : decode cL_come 3 = .ok (.bipush 22, 2) := sl_row ag_come_0 gl_come_0 (i := 3) (r := (3, .bipush 22, 2)) rfl
theorem dL_come_5 : decode cL_come 5 = .ok (.invokevirtual 54, 3) := sl_row ag_come_0 gl_come_0 (i := 4) (r := (5, .invokevirtual 54, 3)) rfl
theorem dL_come_8 : decode cL_come 8 = .ok (.iadd, 1) := sl_row ag_come_0 gl_come_0 (i := 5) (r := (8, .iadd, 1)) rfl
theorem dL_come_9 : decode cL_come 9 = .ok (.putfield 57, 3) := sl_row ag_come_0 gl_come_0 (i := 6) (r := (9, .putfield 57, 3)) rfl
theorem dL_come_12 : decode cL_come 12 = .ok (.aload_n 0, 1) := sl_row ag_come_0 gl_come_0 (i := 7) (r := (12, .aload_n 0, 1)) rfl
theorem dL_come_13 : decode cL_come 13 = .ok (.invokevirtual 60, 3) := sl_row ag_come_0 gl_come_0 (i := 8) (r := (13, .invokevirtual 60, 3)) rfl
theorem dL_come_16 : decode cL_come 16 = .ok (.istore_n 1, 1) := sl_row ag_come_0 gl_come_0 (i := 9) (r := (16, .istore_n 1, 1)) rfl
theorem dL_come_17 : decode cL_come 17 = .ok (.aload_n 0, 1) := sl_row ag_come_0 gl_come_0 (i := 10) (r := (17, .aload_n 0, 1)) rfl
theorem dL_come_18 : decode cL_come 18 = .ok (.iconst 4, 1) := sl_row ag_come_0 gl_come_0 (i := 11) (r := (18, .iconst 4, 1)) rfl
theorem dL_come_19 : decode cL_come 19 = .ok (.invokevirtual 54, 3) := sl_row ag_come_0 gl_come_0 (i := 12) (r := (19, .invokevirtual 54, 3)) rfl
theorem dL_come_22 : decode cL_come 22 = .ok (.ifCond .ne 7, 3) := sl_row ag_come_0 gl_come_0 (i := 13) (r := (22, .ifCond .ne 7, 3)) rfl
theorem dL_come_25 : decode cL_come 25 = .ok (.iconst 1, 1) := sl_row ag_come_0 gl_come_0 (i := 14) (r := (25, .iconst 1, 1)) rfl
theorem dL_come_26 : decode cL_come 26 = .ok (.goto 4, 3) := sl_row ag_come_0 gl_come_0 (i := 15) (r := (26, .goto 4, 3)) rfl
theorem dL_come_29 : decode cL_come 29 = .ok (.iload_n 1, 1) := sl_row ag_come_0 gl_come_0 (i := 16) (r := (29, .iload_n 1, 1)) rfl
theorem dL_come_30 : decode cL_come 30 = .ok (.istore_n 2, 1) := sl_row ag_come_0 gl_come_0 (i := 17) (r := (30, .istore_n 2, 1)) rfl
theorem dL_come_31 : decode cL_come 31 = .ok (.iconst 1, 1) := sl_row ag_come_0 gl_come_0 (i := 18) (r := (31, .iconst 1, 1)) rfl
theorem dL_come_32 : decode cL_come 32 = .ok (.aload_n 0, 1) := sl_row ag_come_0 gl_come_0 (i := 19) (r := (32, .aload_n 0, 1)) rfl
theorem dL_come_33 : decode cL_come 33 = .ok (.iconst 3, 1) := sl_row ag_come_0 gl_come_0 (i := 20) (r := (33, .iconst 3, 1)) rfl
theorem dL_come_34 : decode cL_come 34 = .ok (.invokevirtual 54, 3) := sl_row ag_come_0 gl_come_0 (i := 21) (r := (34, .invokevirtual 54, 3)) rfl
theorem dL_come_37 : decode cL_come 37 = .ok (.iadd, 1) := sl_row ag_come_0 gl_come_0 (i := 22) (r := (37, .iadd, 1)) rfl
theorem dL_come_38 : decode cL_come 38 = .ok (.istore_n 3, 1) := sl_row ag_come_0 gl_come_0 (i := 23) (r := (38, .istore_n 3, 1)) rfl
theorem dL_come_39 : decode cL_come 39 = .ok (.iconst 0, 1) := sl_row ag_come_0 gl_come_0 (i := 24) (r := (39, .iconst 0, 1)) rfl
theorem dL_come_40 : decode cL_come 40 = .ok (.istore 4, 2) := sl_row ag_come_0 gl_come_0 (i := 25) (r := (40, .istore 4, 2)) rfl
theorem dL_come_42 : decode cL_come 42 = .ok (.iload 4, 2) := sl_row ag_come_0 gl_come_0 (i := 26) (r := (42, .iload 4, 2)) rfl
theorem dL_come_44 : decode cL_come 44 = .ok (.aload_n 0, 1) := sl_row ag_come_0 gl_come_0 (i := 27) (r := (44, .aload_n 0, 1)) rfl
theorem dL_come_45 : decode cL_come 45 = .ok (.getfield 57, 3) := sl_row ag_come_0 gl_come_0 (i := 28) (r := (45, .getfield 57, 3)) rfl
theorem dL_come_48 : decode cL_come 48 = .ok (.if_icmp .ge 143, 3) := sl_row ag_come_0 gl_come_0 (i := 29) (r := (48, .if_icmp .ge 143, 3)) rfl
theorem dL_come_51 : decode cL_come 51 = .ok (.aload_n 0, 1) := sl_row ag_come_0 gl_come_0 (i := 30) (r := (51, .aload_n 0, 1)) rfl
theorem dL_come_52 : decode cL_come 52 = .ok (.getfield 16, 3) := sl_row ag_come_0 gl_come_0 (i := 31) (r := (52, .getfield 16, 3)) rfl
theorem dL_come_55 : decode cL_come 55 = .ok (.iload 4, 2) := sl_row ag_come_0 gl_come_0 (i := 32) (r := (55, .iload 4, 2)) rfl
theorem dL_come_57 : decode cL_come 57 = .ok (.aload_n 0, 1) := sl_row ag_come_0 gl_come_0 (i := 33) (r := (57, .aload_n 0, 1)) rfl
theorem dL_come_58 : decode cL_come 58 = .ok (.iload_n 3, 1) := sl_row ag_come_0 gl_come_0 (i := 34) (r := (58, .iload_n 3, 1)) rfl
theorem dL_come_59 : decode cL_come 59 = .ok (.invokevirtual 54, 3) := sl_row ag_come_0 gl_come_0 (i := 35) (r := (59, .invokevirtual 54, 3)) rfl
theorem dL_come_62 : decode cL_come 62 = .ok (.iastore, 1) := sl_row ag_come_0 gl_come_0 (i := 36) (r := (62, .iastore, 1)) rfl
theorem dL_come_63 : decode cL_come 63 = .ok (.iload 4, 2) := sl_row ag_come_0 gl_come_0 (i := 37) (r := (63, .iload 4, 2)) rfl
def ck_come_1 : ByteArray := .mk #[0x04, 0x9e, 0x00, 0x10, 0x2a, 0x10, 0x07, 0xb6, 0x00, 0x36, 0x9a, 0x00, 0x07, 0x04, 0xa7, 0x00, 0x04, 0x03, 0x36, 0x05, 0x2a, 0xb4, 0x00, 0x14, 0x15, 0x04, 0x15, 0x05, 0x99, 0x00, 0x11, 0x2a, 0xb4, 0x00, 0x14, 0x2a, 0x15, 0x04, 0xb6, 0x00, 0x36, 0x2e, 0xa7, 0x00, 0x19, 0x2a, 0x05, 0x1b, 0x68, 0x04, 0x60, 0xb6, 0x00, 0x36, 0x1b, 0x64, 0x10, 0x07, 0x2a, 0xb4, 0x00, 0x10, 0x15, 0x04, 0x2e, 0x68, 0x60, 0x4f]
set_option maxRecDepth 20000 in
theorem ag_come_1 : ∀ q, agB cL_come ck_come_1 (64 + q) q := agB_of 64 (by decide +kernel)
def tl_come_1 : List (Nat × Instr × Nat) := [(1, .ifCond .le 16, 3), (4, .aload_n 0, 1), (5, .bipush 7, 2), (7, .invokevirtual 54, 3), (10, .ifCond .ne 7, 3), (13, .iconst 1, 1), (14, .goto 4, 3), (17, .iconst 0, 1), (18, .istore 5, 2), (20, .aload_n 0, 1), (21, .getfield 20, 3), (24, .iload 4, 2), (26, .iload 5, 2), (28, .ifCond .eq 17, 3), (31, .aload_n 0, 1), (32, .getfield 20, 3), (35, .aload_n 0, 1), (36, .iload 4, 2), (38, .invokevirtual 54, 3), (41, .iaload, 1), (42, .goto 25, 3), (45, .aload_n 0, 1), (46, .iconst 2, 1), (47, .iload_n 1, 1), (48, .imul, 1), (49, .iconst 1, 1), (50, .iadd, 1), (51, .invokevirtual 54, 3), (54, .iload_n 1, 1), (55, .isub, 1), (56, .bipush 7, 2), (58, .aload_n 0, 1), (59, .getfield 16, 3), (62, .iload 4, 2)]
theorem gl_come_1 : tl_come_1.all (fun r => opB ck_come_1 r.1 && decide (decode ck_come_1 r.1 = .ok (r.2.1, r.2.2))) = true := by decide +kernel
theorem dL_come_65 : decode cL_come 65 = .ok (.ifCond .le 16, 3) := sl_row ag_come_1 gl_come_1 (i := 0) (r := (1, .ifCond .le 16, 3)) rfl
theorem dL_come_68 : decode cL_come 68 = .ok (.aload_n 0, 1) := sl_row ag_come_1 gl_come_1 (i := 1) (r := (4, .aload_n 0, 1)) rfl
theorem dL_come_69 : decode cL_come 69 = .ok (.bipush 7, 2) := sl_row ag_come_1 gl_come_1 (i := 2) (r := (5, .bipush 7, 2)) rfl
theorem dL_come_71 : decode cL_come 71 = .ok (.invokevirtual 54, 3) := sl_row ag_come_1 gl_come_1 (i := 3) (r := (7, .invokevirtual 54, 3)) rfl
theorem dL_come_74 : decode cL_come 74 = .ok (.ifCond .ne 7, 3) := sl_row ag_come_1 gl_come_1 (i := 4) (r := (10, .ifCond .ne 7, 3)) rfl
theorem dL_come_77 : decode cL_come 77 = .ok (.iconst 1, 1) := sl_row ag_come_1 gl_come_1 (i := 5) (r := (13, .iconst 1, 1)) rfl
theorem dL_come_78 : decode cL_come 78 = .ok (.goto 4, 3) := sl_row ag_come_1 gl_come_1 (i := 6) (r := (14, .goto 4, 3)) rfl
theorem dL_come_81 : decode cL_come 81 = .ok (.iconst 0, 1) := sl_row ag_come_1 gl_come_1 (i := 7) (r := (17, .iconst 0, 1)) rfl
theorem dL_come_82 : decode cL_come 82 = .ok (.istore 5, 2) := sl_row ag_come_1 gl_come_1 (i := 8) (r := (18, .istore 5, 2)) rfl
theorem dL_come_84 : decode cL_come 84 = .ok (.aload_n 0, 1) := sl_row ag_come_1 gl_come_1 (i := 9) (r := (20, .aload_n 0, 1)) rfl
theorem dL_come_85 : decode cL_come 85 = .ok (.getfield 20, 3) := sl_row ag_come_1 gl_come_1 (i := 10) (r := (21, .getfield 20, 3)) rfl
theorem dL_come_88 : decode cL_come 88 = .ok (.iload 4, 2) := sl_row ag_come_1 gl_come_1 (i := 11) (r := (24, .iload 4, 2)) rfl
theorem dL_come_90 : decode cL_come 90 = .ok (.iload 5, 2) := sl_row ag_come_1 gl_come_1 (i := 12) (r := (26, .iload 5, 2)) rfl
theorem dL_come_92 : decode cL_come 92 = .ok (.ifCond .eq 17, 3) := sl_row ag_come_1 gl_come_1 (i := 13) (r := (28, .ifCond .eq 17, 3)) rfl
theorem dL_come_95 : decode cL_come 95 = .ok (.aload_n 0, 1) := sl_row ag_come_1 gl_come_1 (i := 14) (r := (31, .aload_n 0, 1)) rfl
theorem dL_come_96 : decode cL_come 96 = .ok (.getfield 20, 3) := sl_row ag_come_1 gl_come_1 (i := 15) (r := (32, .getfield 20, 3)) rfl
theorem dL_come_99 : decode cL_come 99 = .ok (.aload_n 0, 1) := sl_row ag_come_1 gl_come_1 (i := 16) (r := (35, .aload_n 0, 1)) rfl
theorem dL_come_100 : decode cL_come 100 = .ok (.iload 4, 2) := sl_row ag_come_1 gl_come_1 (i := 17) (r := (36, .iload 4, 2)) rfl
theorem dL_come_102 : decode cL_come 102 = .ok (.invokevirtual 54, 3) := sl_row ag_come_1 gl_come_1 (i := 18) (r := (38, .invokevirtual 54, 3)) rfl
theorem dL_come_105 : decode cL_come 105 = .ok (.iaload, 1) := sl_row ag_come_1 gl_come_1 (i := 19) (r := (41, .iaload, 1)) rfl
theorem dL_come_106 : decode cL_come 106 = .ok (.goto 25, 3) := sl_row ag_come_1 gl_come_1 (i := 20) (r := (42, .goto 25, 3)) rfl
theorem dL_come_109 : decode cL_come 109 = .ok (.aload_n 0, 1) := sl_row ag_come_1 gl_come_1 (i := 21) (r := (45, .aload_n 0, 1)) rfl
theorem dL_come_110 : decode cL_come 110 = .ok (.iconst 2, 1) := sl_row ag_come_1 gl_come_1 (i := 22) (r := (46, .iconst 2, 1)) rfl
theorem dL_come_111 : decode cL_come 111 = .ok (.iload_n 1, 1) := sl_row ag_come_1 gl_come_1 (i := 23) (r := (47, .iload_n 1, 1)) rfl
theorem dL_come_112 : decode cL_come 112 = .ok (.imul, 1) := sl_row ag_come_1 gl_come_1 (i := 24) (r := (48, .imul, 1)) rfl
theorem dL_come_113 : decode cL_come 113 = .ok (.iconst 1, 1) := sl_row ag_come_1 gl_come_1 (i := 25) (r := (49, .iconst 1, 1)) rfl
theorem dL_come_114 : decode cL_come 114 = .ok (.iadd, 1) := sl_row ag_come_1 gl_come_1 (i := 26) (r := (50, .iadd, 1)) rfl
theorem dL_come_115 : decode cL_come 115 = .ok (.invokevirtual 54, 3) := sl_row ag_come_1 gl_come_1 (i := 27) (r := (51, .invokevirtual 54, 3)) rfl
theorem dL_come_118 : decode cL_come 118 = .ok (.iload_n 1, 1) := sl_row ag_come_1 gl_come_1 (i := 28) (r := (54, .iload_n 1, 1)) rfl
theorem dL_come_119 : decode cL_come 119 = .ok (.isub, 1) := sl_row ag_come_1 gl_come_1 (i := 29) (r := (55, .isub, 1)) rfl
theorem dL_come_120 : decode cL_come 120 = .ok (.bipush 7, 2) := sl_row ag_come_1 gl_come_1 (i := 30) (r := (56, .bipush 7, 2)) rfl
theorem dL_come_122 : decode cL_come 122 = .ok (.aload_n 0, 1) := sl_row ag_come_1 gl_come_1 (i := 31) (r := (58, .aload_n 0, 1)) rfl
theorem dL_come_123 : decode cL_come 123 = .ok (.getfield 16, 3) := sl_row ag_come_1 gl_come_1 (i := 32) (r := (59, .getfield 16, 3)) rfl
theorem dL_come_126 : decode cL_come 126 = .ok (.iload 4, 2) := sl_row ag_come_1 gl_come_1 (i := 33) (r := (62, .iload 4, 2)) rfl
def ck_come_2 : ByteArray := .mk #[0x2e, 0x68, 0x60, 0x4f, 0x2a, 0xb4, 0x00, 0x17, 0x15, 0x04, 0x2a, 0x05, 0x1c, 0x68, 0x04, 0x60, 0xb6, 0x00, 0x36, 0x1c, 0x64, 0x4f, 0x2a, 0xb4, 0x00, 0x0a, 0x2a, 0xb4, 0x00, 0x10, 0x15, 0x04, 0x2e, 0x2a, 0xb4, 0x00, 0x14, 0x15, 0x04, 0x2e, 0x2a, 0xb4, 0x00, 0x17, 0x15, 0x04, 0x2e, 0xb6, 0x00, 0x40, 0x15, 0x04, 0x9f, 0x00, 0x05, 0x03, 0xac, 0x84, 0x04, 0x01, 0xa7, 0xff, 0x6e, 0x04, 0xac]
set_option maxRecDepth 20000 in
theorem ag_come_2 : ∀ q, agB cL_come ck_come_2 (128 + q) q := agB_of 128 (by decide +kernel)
def tl_come_2 : List (Nat × Instr × Nat) := [(0, .iaload, 1), (1, .imul, 1), (2, .iadd, 1), (3, .iastore, 1), (4, .aload_n 0, 1), (5, .getfield 23, 3), (8, .iload 4, 2), (10, .aload_n 0, 1), (11, .iconst 2, 1), (12, .iload_n 2, 1), (13, .imul, 1), (14, .iconst 1, 1), (15, .iadd, 1), (16, .invokevirtual 54, 3), (19, .iload_n 2, 1), (20, .isub, 1), (21, .iastore, 1), (22, .aload_n 0, 1), (23, .getfield 10, 3), (26, .aload_n 0, 1), (27, .getfield 16, 3), (30, .iload 4, 2), (32, .iaload, 1), (33, .aload_n 0, 1), (34, .getfield 20, 3), (37, .iload 4, 2), (39, .iaload, 1), (40, .aload_n 0, 1), (41, .getfield 23, 3), (44, .iload 4, 2), (46, .iaload, 1), (47, .invokevirtual 64, 3), (50, .iload 4, 2), (52, .if_icmp .eq 5, 3), (55, .iconst 0, 1), (56, .ireturn, 1), (57, .iinc 4 1, 3), (60, .goto (-146), 3), (63, .iconst 1, 1)]
theorem gl_come_2 : tl_come_2.all (fun r => opB ck_come_2 r.1 && decide (decode ck_come_2 r.1 = .ok (r.2.1, r.2.2))) = true := by decide +kernel
theorem dL_come_128 : decode cL_come 128 = .ok (.iaload, 1) := sl_row ag_come_2 gl_come_2 (i := 0) (r := (0, .iaload, 1)) rfl
theorem dL_come_129 : decode cL_come 129 = .ok (.imul, 1) := sl_row ag_come_2 gl_come_2 (i := 1) (r := (1, .imul, 1)) rfl
theorem dL_come_130 : decode cL_come 130 = .ok (.iadd, 1) := sl_row ag_come_2 gl_come_2 (i := 2) (r := (2, .iadd, 1)) rfl
theorem dL_come_131 : decode cL_come 131 = .ok (.iastore, 1) := sl_row ag_come_2 gl_come_2 (i := 3) (r := (3, .iastore, 1)) rfl
theorem dL_come_132 : decode cL_come 132 = .ok (.aload_n 0, 1) := sl_row ag_come_2 gl_come_2 (i := 4) (r := (4, .aload_n 0, 1)) rfl
theorem dL_come_133 : decode cL_come 133 = .ok (.getfield 23, 3) := sl_row ag_come_2 gl_come_2 (i := 5) (r := (5, .getfield 23, 3)) rfl
theorem dL_come_136 : decode cL_come 136 = .ok (.iload 4, 2) := sl_row ag_come_2 gl_come_2 (i := 6) (r := (8, .iload 4, 2)) rfl
theorem dL_come_138 : decode cL_come 138 = .ok (.aload_n 0, 1) := sl_row ag_come_2 gl_come_2 (i := 7) (r := (10, .aload_n 0, 1)) rfl
theorem dL_come_139 : decode cL_come 139 = .ok (.iconst 2, 1) := sl_row ag_come_2 gl_come_2 (i := 8) (r := (11, .iconst 2, 1)) rfl
theorem dL_come_140 : decode cL_come 140 = .ok (.iload_n 2, 1) := sl_row ag_come_2 gl_come_2 (i := 9) (r := (12, .iload_n 2, 1)) rfl
theorem dL_come_141 : decode cL_come 141 = .ok (.imul, 1) := sl_row ag_come_2 gl_come_2 (i := 10) (r := (13, .imul, 1)) rfl
theorem dL_come_142 : decode cL_come 142 = .ok (.iconst 1, 1) := sl_row ag_come_2 gl_come_2 (i := 11) (r := (14, .iconst 1, 1)) rfl
theorem dL_come_143 : decode cL_come 143 = .ok (.iadd, 1) := sl_row ag_come_2 gl_come_2 (i := 12) (r := (15, .iadd, 1)) rfl
theorem dL_come_144 : decode cL_come 144 = .ok (.invokevirtual 54, 3) := sl_row ag_come_2 gl_come_2 (i := 13) (r := (16, .invokevirtual 54, 3)) rfl
theorem dL_come_147 : decode cL_come 147 = .ok (.iload_n 2, 1) := sl_row ag_come_2 gl_come_2 (i := 14) (r := (19, .iload_n 2, 1)) rfl
theorem dL_come_148 : decode cL_come 148 = .ok (.isub, 1) := sl_row ag_come_2 gl_come_2 (i := 15) (r := (20, .isub, 1)) rfl
theorem dL_come_149 : decode cL_come 149 = .ok (.iastore, 1) := sl_row ag_come_2 gl_come_2 (i := 16) (r := (21, .iastore, 1)) rfl
theorem dL_come_150 : decode cL_come 150 = .ok (.aload_n 0, 1) := sl_row ag_come_2 gl_come_2 (i := 17) (r := (22, .aload_n 0, 1)) rfl
theorem dL_come_151 : decode cL_come 151 = .ok (.getfield 10, 3) := sl_row ag_come_2 gl_come_2 (i := 18) (r := (23, .getfield 10, 3)) rfl
theorem dL_come_154 : decode cL_come 154 = .ok (.aload_n 0, 1) := sl_row ag_come_2 gl_come_2 (i := 19) (r := (26, .aload_n 0, 1)) rfl
theorem dL_come_155 : decode cL_come 155 = .ok (.getfield 16, 3) := sl_row ag_come_2 gl_come_2 (i := 20) (r := (27, .getfield 16, 3)) rfl
theorem dL_come_158 : decode cL_come 158 = .ok (.iload 4, 2) := sl_row ag_come_2 gl_come_2 (i := 21) (r := (30, .iload 4, 2)) rfl
theorem dL_come_160 : decode cL_come 160 = .ok (.iaload, 1) := sl_row ag_come_2 gl_come_2 (i := 22) (r := (32, .iaload, 1)) rfl
theorem dL_come_161 : decode cL_come 161 = .ok (.aload_n 0, 1) := sl_row ag_come_2 gl_come_2 (i := 23) (r := (33, .aload_n 0, 1)) rfl
theorem dL_come_162 : decode cL_come 162 = .ok (.getfield 20, 3) := sl_row ag_come_2 gl_come_2 (i := 24) (r := (34, .getfield 20, 3)) rfl
theorem dL_come_165 : decode cL_come 165 = .ok (.iload 4, 2) := sl_row ag_come_2 gl_come_2 (i := 25) (r := (37, .iload 4, 2)) rfl
theorem dL_come_167 : decode cL_come 167 = .ok (.iaload, 1) := sl_row ag_come_2 gl_come_2 (i := 26) (r := (39, .iaload, 1)) rfl
theorem dL_come_168 : decode cL_come 168 = .ok (.aload_n 0, 1) := sl_row ag_come_2 gl_come_2 (i := 27) (r := (40, .aload_n 0, 1)) rfl
theorem dL_come_169 : decode cL_come 169 = .ok (.getfield 23, 3) := sl_row ag_come_2 gl_come_2 (i := 28) (r := (41, .getfield 23, 3)) rfl
theorem dL_come_172 : decode cL_come 172 = .ok (.iload 4, 2) := sl_row ag_come_2 gl_come_2 (i := 29) (r := (44, .iload 4, 2)) rfl
theorem dL_come_174 : decode cL_come 174 = .ok (.iaload, 1) := sl_row ag_come_2 gl_come_2 (i := 30) (r := (46, .iaload, 1)) rfl
theorem dL_come_175 : decode cL_come 175 = .ok (.invokevirtual 64, 3) := sl_row ag_come_2 gl_come_2 (i := 31) (r := (47, .invokevirtual 64, 3)) rfl
theorem dL_come_178 : decode cL_come 178 = .ok (.iload 4, 2) := sl_row ag_come_2 gl_come_2 (i := 32) (r := (50, .iload 4, 2)) rfl
theorem dL_come_180 : decode cL_come 180 = .ok (.if_icmp .eq 5, 3) := sl_row ag_come_2 gl_come_2 (i := 33) (r := (52, .if_icmp .eq 5, 3)) rfl
theorem dL_come_183 : decode cL_come 183 = .ok (.iconst 0, 1) := sl_row ag_come_2 gl_come_2 (i := 34) (r := (55, .iconst 0, 1)) rfl
theorem dL_come_184 : decode cL_come 184 = .ok (.ireturn, 1) := sl_row ag_come_2 gl_come_2 (i := 35) (r := (56, .ireturn, 1)) rfl
theorem dL_come_185 : decode cL_come 185 = .ok (.iinc 4 1, 3) := sl_row ag_come_2 gl_come_2 (i := 36) (r := (57, .iinc 4 1, 3)) rfl
theorem dL_come_188 : decode cL_come 188 = .ok (.goto (-146), 3) := sl_row ag_come_2 gl_come_2 (i := 37) (r := (60, .goto (-146), 3)) rfl
theorem dL_come_191 : decode cL_come 191 = .ok (.iconst 1, 1) := sl_row ag_come_2 gl_come_2 (i := 38) (r := (63, .iconst 1, 1)) rfl
def ck_come_3 : ByteArray := .mk #[0xac]
set_option maxRecDepth 20000 in
theorem ag_come_3 : ∀ q, agB cL_come ck_come_3 (192 + q) q := agB_of 192 (by decide +kernel)
def tl_come_3 : List (Nat × Instr × Nat) := [(0, .ireturn, 1)]
theorem gl_come_3 : tl_come_3.all (fun r => opB ck_come_3 r.1 && decide (decode ck_come_3 r.1 = .ok (r.2.1, r.2.2))) = true := by decide +kernel
theorem dL_come_192 : decode cL_come 192 = .ok (.ireturn, 1) := sl_row ag_come_3 gl_come_3 (i := 0) (r := (0, .ireturn, 1)) rfl
def ck_isFigure_0 : ByteArray := .mk #[0x2a, 0x2a, 0xb4, 0x00, 0x0a, 0xb6, 0x00, 0x44, 0xb5, 0x00, 0x47, 0x03, 0x3c, 0x03, 0x3d, 0x10, 0x11, 0x3e, 0x03, 0x36, 0x04, 0x15, 0x04, 0x2a, 0xb4, 0x00, 0x47, 0xa2, 0x00, 0x7a, 0x2a, 0xb4, 0x00, 0x20, 0x15, 0x04, 0x2a, 0xb4, 0x00, 0x0a, 0x15, 0x04, 0x03, 0xb6, 0x00, 0x49, 0x4f, 0x2a, 0xb4, 0x00, 0x23, 0x15, 0x04, 0x2a, 0xb4, 0x00, 0x0a, 0x15, 0x04, 0x04, 0xb6, 0x00, 0x49, 0x4f, 0x10, 0x1f, 0x10, 0x1f]
set_option maxRecDepth 20000 in
theorem ag_isFigure_0 : ∀ q, agB cL_isFigure ck_isFigure_0 (0 + q) q := agB_of 0 (by decide +kernel)
def tl_isFigure_0 : List (Nat × Instr × Nat) := [(0, .aload_n 0, 1), (1, .aload_n 0, 1), (2, .getfield 10, 3), (5, .invokevirtual 68, 3), (8, .putfield 71, 3), (11, .iconst 0, 1), (12, .istore_n 1, 1), (13, .iconst 0, 1), (14, .istore_n 2, 1), (15, .bipush 17, 2), (17, .istore_n 3, 1), (18, .iconst 0, 1), (19, .istore 4, 2), (21, .iload 4, 2), (23, .aload_n 0, 1), (24, .getfield 71, 3), (27, .if_icmp .ge 122, 3), (30, .aload_n 0, 1), (31, .getfield 32, 3), (34, .iload 4, 2), (36, .aload_n 0, 1), (37, .getfield 10, 3), (40, .iload 4, 2), (42, .iconst 0, 1), (43, .invokevirtual 73, 3), (46, .iastore, 1), (47, .aload_n 0, 1), (48, .getfield 35, 3), (51, .iload 4, 2), (53, .aload_n 0, 1), (54, .getfield 10, 3), (57, .iload 4, 2), (59, .iconst 1, 1), (60, .invokevirtual 73, 3), (63, .iastore, 1)]
theorem gl_isFigure_0 : tl_isFigure_0.all (fun r => opB ck_isFigure_0 r.1 && decide (decode ck_isFigure_0 r.1 = .ok (r.2.1, r.2.2))) = true := by decide +kernel
theorem dL_isFigure_0 : decode cL_isFigure 0 = .ok (.aload_n 0, 1) := sl_row ag_isFigure_0 gl_isFigure_0 (i := 0) (r := (0, .aload_n 0, 1)) rfl
theorem dL_isFigure_1 : decode cL_isFigure 1 = .ok (.aload_n 0, 1) := sl_row ag_isFigure_0 gl_isFigure_0 (i := 1) (r := (1, .aload_n 0, 1)) rfl
theorem dL_isFigure_2 : decode cL_isFigure 2 = .ok (.getfield 10, 3) := sl_row ag_isFigure_0 gl_isFigure_0 (i := 2) (r := (2, .getfield 10, 3)) rfl
theorem dL_isFigure_5 : decode cL_isFigure 5 = .ok (.invokevirtual 68, 3) := sl_row ag_isFigure_0 gl_isFigure_0 (i := 3) (r := (5, .invokevirtual 68, 3)) rfl
theorem dL_isFigure_8 : decode cL_isFigure 8 = .ok (.putfield 71, 3) := sl_row ag_isFigure_0 gl_isFigure_0 (i := 4) (r := (8, .putfield 71, 3)) rfl
theorem dL_isFigure_11 : decode cL_isFigure 11 = .ok (.iconst 0, 1) := sl_row ag_isFigure_0 gl_isFigure_0 (i := 5) (r := (11, .iconst 0, 1)) rfl
theorem dL_isFigure_12 : decode cL_isFigure 12 = .ok (.istore_n 1, 1) := sl_row ag_isFigure_0 gl_isFigure_0 (i := 6) (r := (12, .istore_n 1, 1)) rfl
theorem dL_isFigure_13 : decode cL_isFigure 13 = .ok (.iconst 0, 1) := sl_row ag_isFigure_0 gl_isFigure_0 (i := 7) (r := (13, .iconst 0, 1)) rfl
theorem dL_isFigure_14 : decode cL_isFigure 14 = .ok (.istore_n 2, 1) := sl_row ag_isFigure_0 gl_isFigure_0 (i := 8) (r := (14, .istore_n 2, 1)) rfl
theorem dL_isFigure_15 : decode cL_isFigure 15 = .ok (.bipush 17, 2) := sl_row ag_isFigure_0 gl_isFigure_0 (i := 9) (r := (15, .bipush 17, 2)) rfl
theorem dL_isFigure_17 : decode cL_isFigure 17 = .ok (.istore_n 3, 1) := sl_row ag_isFigure_0 gl_isFigure_0 (i := 10) (r := (17, .istore_n 3, 1)) rfl
theorem dL_isFigure_18 : decode cL_isFigure 18 = .ok (.iconst 0, 1) := sl_row ag_isFigure_0 gl_isFigure_0 (i := 11) (r := (18, .iconst 0, 1)) rfl
theorem dL_isFigure_19 : decode cL_isFigure 19 = .ok (.istore 4, 2) := sl_row ag_isFigure_0 gl_isFigure_0 (i := 12) (r := (19, .istore 4, 2)) rfl
theorem dL_isFigure_21 : decode cL_isFigure 21 = .ok (.iload 4, 2) := sl_row ag_isFigure_0 gl_isFigure_0 (i := 13) (r := (21, .iload 4, 2)) rfl
theorem dL_isFigure_23 : decode cL_isFigure 23 = .ok (.aload_n 0, 1) := sl_row ag_isFigure_0 gl_isFigure_0 (i := 14) (r := (23, .aload_n 0, 1)) rfl
theorem dL_isFigure_24 : decode cL_isFigure 24 = .ok (.getfield 71, 3) := sl_row ag_isFigure_0 gl_isFigure_0 (i := 15) (r := (24, .getfield 71, 3)) rfl
theorem dL_isFigure_27 : decode cL_isFigure 27 = .ok (.if_icmp .ge 122, 3) := sl_row ag_isFigure_0 gl_isFigure_0 (i := 16) (r := (27, .if_icmp .ge 122, 3)) rfl
theorem dL_isFigure_30 : decode cL_isFigure 30 = .ok (.aload_n 0, 1) := sl_row ag_isFigure_0 gl_isFigure_0 (i := 17) (r := (30, .aload_n 0, 1)) rfl
theorem dL_isFigure_31 : decode cL_isFigure 31 = .ok (.getfield 32, 3) := sl_row ag_isFigure_0 gl_isFigure_0 (i := 18) (r := (31, .getfield 32, 3)) rfl
theorem dL_isFigure_34 : decode cL_isFigure 34 = .ok (.iload 4, 2) := sl_row ag_isFigure_0 gl_isFigure_0 (i := 19) (r := (34, .iload 4, 2)) rfl
theorem dL_isFigure_36 : decode cL_isFigure 36 = .ok (.aload_n 0, 1) := sl_row ag_isFigure_0 gl_isFigure_0 (i := 20) (r := (36, .aload_n 0, 1)) rfl
theorem dL_isFigure_37 : decode cL_isFigure 37 = .ok (.getfield 10, 3) := sl_row ag_isFigure_0 gl_isFigure_0 (i := 21) (r := (37, .getfield 10, 3)) rfl
theorem dL_isFigure_40 : decode cL_isFigure 40 = .ok (.iload 4, 2) := sl_row ag_isFigure_0 gl_isFigure_0 (i := 22) (r := (40, .iload 4, 2)) rfl
theorem dL_isFigure_42 : decode cL_isFigure 42 = .ok (.iconst 0, 1) := sl_row ag_isFigure_0 gl_isFigure_0 (i := 23) (r := (42, .iconst 0, 1)) rfl
theorem dL_isFigure_43 : decode cL_isFigure 43 = .ok (.invokevirtual 73, 3) := sl_row ag_isFigure_0 gl_isFigure_0 (i := 24) (r := (43, .invokevirtual 73, 3)) rfl
theorem dL_isFigure_46 : decode cL_isFigure 46 = .ok (.iastore, 1) := sl_row ag_isFigure_0 gl_isFigure_0 (i := 25) (r := (46, .iastore, 1)) rfl
theorem dL_isFigure_47 : decode cL_isFigure 47 = .ok (.aload_n 0, 1) := sl_row ag_isFigure_0 gl_isFigure_0 (i := 26) (r := (47, .aload_n 0, 1)) rfl
theorem dL_isFigure_48 : decode cL_isFigure 48 = .ok (.getfield 35, 3) := sl_row ag_isFigure_0 gl_isFigure_0 (i := 27) (r := (48, .getfield 35, 3)) rfl
theorem dL_isFigure_51 : decode cL_isFigure 51 = .ok (.iload 4, 2) := sl_row ag_isFigure_0 gl_isFigure_0 (i := 28) (r := (51, .iload 4, 2)) rfl
theorem dL_isFigure_53 : decode cL_isFigure 53 = .ok (.aload_n 0, 1) := sl_row ag_isFigure_0 gl_isFigure_0 (i := 29) (r := (53, .aload_n 0, 1)) rfl
theorem dL_isFigure_54 : decode cL_isFigure 54 = .ok (.getfield 10, 3) := sl_row ag_isFigure_0 gl_isFigure_0 (i := 30) (r := (54, .getfield 10, 3)) rfl
theorem dL_isFigure_57 : decode cL_isFigure 57 = .ok (.iload 4, 2) := sl_row ag_isFigure_0 gl_isFigure_0 (i := 31) (r := (57, .iload 4, 2)) rfl
theorem dL_isFigure_59 : decode cL_isFigure 59 = .ok (.iconst 1, 1) := sl_row ag_isFigure_0 gl_isFigure_0 (i := 32) (r := (59, .iconst 1, 1)) rfl
theorem dL_isFigure_60 : decode cL_isFigure 60 = .ok (.invokevirtual 73, 3) := sl_row ag_isFigure_0 gl_isFigure_0 (i := 33) (r := (60, .invokevirtual 73, 3)) rfl
theorem dL_isFigure_63 : decode cL_isFigure 63 = .ok (.iastore, 1) := sl_row ag_isFigure_0 gl_isFigure_0 (i := 34) (r := (63, .iastore, 1)) rfl
def ck_isFigure_1 : ByteArray := .mk #[0x10, 0x1f, 0x10, 0x1f, 0x1d, 0x68, 0x2a, 0xb4, 0x00, 0x20, 0x15, 0x04, 0x2e, 0x60, 0x68, 0x2a, 0xb4, 0x00, 0x23, 0x15, 0x04, 0x2e, 0x60, 0x3e, 0x15, 0x04, 0x9e, 0x00, 0x35, 0x2a, 0xb4, 0x00, 0x20, 0x15, 0x04, 0x2e, 0x2a, 0xb4, 0x00, 0x20, 0x03, 0x2e, 0xa1, 0x00, 0x23, 0x2a, 0xb4, 0x00, 0x20, 0x15, 0x04, 0x2e, 0x2a, 0xb4, 0x00, 0x20, 0x03, 0x2e, 0xa0, 0x00, 0x15, 0x2a, 0xb4, 0x00, 0x23, 0x15, 0x04, 0x2e]
set_option maxRecDepth 20000 in
theorem ag_isFigure_1 : ∀ q, agB cL_isFigure ck_isFigure_1 (64 + q) q := agB_of 64 (by decide +kernel)
def tl_isFigure_1 : List (Nat × Instr × Nat) := [(0, .bipush 31, 2), (2, .bipush 31, 2), (4, .iload_n 3, 1), (5, .imul, 1), (6, .aload_n 0, 1), (7, .getfield 32, 3), (10, .iload 4, 2), (12, .iaload, 1), (13, .iadd, 1), (14, .imul, 1), (15, .aload_n 0, 1), (16, .getfield 35, 3), (19, .iload 4, 2), (21, .iaload, 1), (22, .iadd, 1), (23, .istore_n 3, 1), (24, .iload 4, 2), (26, .ifCond .le 53, 3), (29, .aload_n 0, 1), (30, .getfield 32, 3), (33, .iload 4, 2), (35, .iaload, 1), (36, .aload_n 0, 1), (37, .getfield 32, 3), (40, .iconst 0, 1), (41, .iaload, 1), (42, .if_icmp .lt 35, 3), (45, .aload_n 0, 1), (46, .getfield 32, 3), (49, .iload 4, 2), (51, .iaload, 1), (52, .aload_n 0, 1), (53, .getfield 32, 3), (56, .iconst 0, 1), (57, .iaload, 1), (58, .if_icmp .ne 21, 3), (61, .aload_n 0, 1), (62, .getfield 35, 3)]
theorem gl_isFigure_1 : tl_isFigure_1.all (fun r => opB ck_isFigure_1 r.1 && decide (decode ck_isFigure_1 r.1 = .ok (r.2.1, r.2.2))) = true := by decide +kernel
theorem dL_isFigure_64 : decode cL_isFigure 64 = .ok (.bipush 31, 2) := sl_row ag_isFigure_1 gl_isFigure_1 (i := 0) (r := (0, .bipush 31, 2)) rfl
theorem dL_isFigure_66 : decode cL_isFigure 66 = .ok (.bipush 31, 2) := sl_row ag_isFigure_1 gl_isFigure_1 (i := 1) (r := (2, .bipush 31, 2)) rfl
theorem dL_isFigure_68 : decode cL_isFigure 68 = .ok (.iload_n 3, 1) := sl_row ag_isFigure_1 gl_isFigure_1 (i := 2) (r := (4, .iload_n 3, 1)) rfl
theorem dL_isFigure_69 : decode cL_isFigure 69 = .ok (.imul, 1) := sl_row ag_isFigure_1 gl_isFigure_1 (i := 3) (r := (5, .imul, 1)) rfl
theorem dL_isFigure_70 : decode cL_isFigure 70 = .ok (.aload_n 0, 1) := sl_row ag_isFigure_1 gl_isFigure_1 (i := 4) (r := (6, .aload_n 0, 1)) rfl
theorem dL_isFigure_71 : decode cL_isFigure 71 = .ok (.getfield 32, 3) := sl_row ag_isFigure_1 gl_isFigure_1 (i := 5) (r := (7, .getfield 32, 3)) rfl
theorem dL_isFigure_74 : decode cL_isFigure 74 = .ok (.iload 4, 2) := sl_row ag_isFigure_1 gl_isFigure_1 (i := 6) (r := (10, .iload 4, 2)) rfl
theorem dL_isFigure_76 : decode cL_isFigure 76 = .ok (.iaload, 1) := sl_row ag_isFigure_1 gl_isFigure_1 (i := 7) (r := (12, .iaload, 1)) rfl
theorem dL_isFigure_77 : decode cL_isFigure 77 = .ok (.iadd, 1) := sl_row ag_isFigure_1 gl_isFigure_1 (i := 8) (r := (13, .iadd, 1)) rfl
theorem dL_isFigure_78 : decode cL_isFigure 78 = .ok (.imul, 1) := sl_row ag_isFigure_1 gl_isFigure_1 (i := 9) (r := (14, .imul, 1)) rfl
theorem dL_isFigure_79 : decode cL_isFigure 79 = .ok (.aload_n 0, 1) := sl_row ag_isFigure_1 gl_isFigure_1 (i := 10) (r := (15, .aload_n 0, 1)) rfl
theorem dL_isFigure_80 : decode cL_isFigure 80 = .ok (.getfield 35, 3) := sl_row ag_isFigure_1 gl_isFigure_1 (i := 11) (r := (16, .getfield 35, 3)) rfl
theorem dL_isFigure_83 : decode cL_isFigure 83 = .ok (.iload 4, 2) := sl_row ag_isFigure_1 gl_isFigure_1 (i := 12) (r := (19, .iload 4, 2)) rfl
theorem dL_isFigure_85 : decode cL_isFigure 85 = .ok (.iaload, 1) := sl_row ag_isFigure_1 gl_isFigure_1 (i := 13) (r := (21, .iaload, 1)) rfl
theorem dL_isFigure_86 : decode cL_isFigure 86 = .ok (.iadd, 1) := sl_row ag_isFigure_1 gl_isFigure_1 (i := 14) (r := (22, .iadd, 1)) rfl
theorem dL_isFigure_87 : decode cL_isFigure 87 = .ok (.istore_n 3, 1) := sl_row ag_isFigure_1 gl_isFigure_1 (i := 15) (r := (23, .istore_n 3, 1)) rfl
theorem dL_isFigure_88 : decode cL_isFigure 88 = .ok (.iload 4, 2) := sl_row ag_isFigure_1 gl_isFigure_1 (i := 16) (r := (24, .iload 4, 2)) rfl
theorem dL_isFigure_90 : decode cL_isFigure 90 = .ok (.ifCond .le 53, 3) := sl_row ag_isFigure_1 gl_isFigure_1 (i := 17) (r := (26, .ifCond .le 53, 3)) rfl
theorem dL_isFigure_93 : decode cL_isFigure 93 = .ok (.aload_n 0, 1) := sl_row ag_isFigure_1 gl_isFigure_1 (i := 18) (r := (29, .aload_n 0, 1)) rfl
theorem dL_isFigure_94 : decode cL_isFigure 94 = .ok (.getfield 32, 3) := sl_row ag_isFigure_1 gl_isFigure_1 (i := 19) (r := (30, .getfield 32, 3)) rfl
theorem dL_isFigure_97 : decode cL_isFigure 97 = .ok (.iload 4, 2) := sl_row ag_isFigure_1 gl_isFigure_1 (i := 20) (r := (33, .iload 4, 2)) rfl
theorem dL_isFigure_99 : decode cL_isFigure 99 = .ok (.iaload, 1) := sl_row ag_isFigure_1 gl_isFigure_1 (i := 21) (r := (35, .iaload, 1)) rfl
theorem dL_isFigure_100 : decode cL_isFigure 100 = .ok (.aload_n 0, 1) := sl_row ag_isFigure_1 gl_isFigure_1 (i := 22) (r := (36, .aload_n 0, 1)) rfl
theorem dL_isFigure_101 : decode cL_isFigure 101 = .ok (.getfield 32, 3) := sl_row ag_isFigure_1 gl_isFigure_1 (i := 23) (r := (37, .getfield 32, 3)) rfl
theorem dL_isFigure_104 : decode cL_isFigure 104 = .ok (.iconst 0, 1) := sl_row ag_isFigure_1 gl_isFigure_1 (i := 24) (r := (40, .iconst 0, 1)) rfl
theorem dL_isFigure_105 : decode cL_isFigure 105 = .ok (.iaload, 1) := sl_row ag_isFigure_1 gl_isFigure_1 (i := 25) (r := (41, .iaload, 1)) rfl
theorem dL_isFigure_106 : decode cL_isFigure 106 = .ok (.if_icmp .lt 35, 3) := sl_row ag_isFigure_1 gl_isFigure_1 (i := 26) (r := (42, .if_icmp .lt 35, 3)) rfl
theorem dL_isFigure_109 : decode cL_isFigure 109 = .ok (.aload_n 0, 1) := sl_row ag_isFigure_1 gl_isFigure_1 (i := 27) (r := (45, .aload_n 0, 1)) rfl
theorem dL_isFigure_110 : decode cL_isFigure 110 = .ok (.getfield 32, 3) := sl_row ag_isFigure_1 gl_isFigure_1 (i := 28) (r := (46, .getfield 32, 3)) rfl
theorem dL_isFigure_113 : decode cL_isFigure 113 = .ok (.iload 4, 2) := sl_row ag_isFigure_1 gl_isFigure_1 (i := 29) (r := (49, .iload 4, 2)) rfl
theorem dL_isFigure_115 : decode cL_isFigure 115 = .ok (.iaload, 1) := sl_row ag_isFigure_1 gl_isFigure_1 (i := 30) (r := (51, .iaload, 1)) rfl
theorem dL_isFigure_116 : decode cL_isFigure 116 = .ok (.aload_n 0, 1) := sl_row ag_isFigure_1 gl_isFigure_1 (i := 31) (r := (52, .aload_n 0, 1)) rfl
theorem dL_isFigure_117 : decode cL_isFigure 117 = .ok (.getfield 32, 3) := sl_row ag_isFigure_1 gl_isFigure_1 (i := 32) (r := (53, .getfield 32, 3)) rfl
theorem dL_isFigure_120 : decode cL_isFigure 120 = .ok (.iconst 0, 1) := sl_row ag_isFigure_1 gl_isFigure_1 (i := 33) (r := (56, .iconst 0, 1)) rfl
theorem dL_isFigure_121 : decode cL_isFigure 121 = .ok (.iaload, 1) := sl_row ag_isFigure_1 gl_isFigure_1 (i := 34) (r := (57, .iaload, 1)) rfl
theorem dL_isFigure_122 : decode cL_isFigure 122 = .ok (.if_icmp .ne 21, 3) := sl_row ag_isFigure_1 gl_isFigure_1 (i := 35) (r := (58, .if_icmp .ne 21, 3)) rfl
theorem dL_isFigure_125 : decode cL_isFigure 125 = .ok (.aload_n 0, 1) := sl_row ag_isFigure_1 gl_isFigure_1 (i := 36) (r := (61, .aload_n 0, 1)) rfl
theorem dL_isFigure_126 : decode cL_isFigure 126 = .ok (.getfield 35, 3) := sl_row ag_isFigure_1 gl_isFigure_1 (i := 37) (r := (62, .getfield 35, 3)) rfl
def ck_isFigure_2 : ByteArray := .mk #[0x23, 0x15, 0x04, 0x2e, 0x2a, 0xb4, 0x00, 0x23, 0x03, 0x2e, 0xa3, 0x00, 0x05, 0x03, 0xac, 0x84, 0x04, 0x01, 0xa7, 0xff, 0x83, 0x03, 0x36, 0x04, 0x15, 0x04, 0x2a, 0xb4, 0x00, 0x47, 0xa2, 0x00, 0xba, 0x15, 0x04, 0x04, 0x60, 0x2a, 0xb4, 0x00, 0x47, 0x70, 0x36, 0x05, 0x15, 0x04, 0x05, 0x60, 0x2a, 0xb4, 0x00, 0x47, 0x70, 0x36, 0x06, 0x2a, 0xb4, 0x00, 0x47, 0x05, 0xa4, 0x00, 0x36, 0x2a, 0xb4, 0x00, 0x20, 0x15]
set_option maxRecDepth 20000 in
theorem ag_isFigure_2 : ∀ q, agB cL_isFigure ck_isFigure_2 (128 + q) q := agB_of 128 (by decide +kernel)
def tl_isFigure_2 : List (Nat × Instr × Nat) := [(1, .iload 4, 2), (3, .iaload, 1), (4, .aload_n 0, 1), (5, .getfield 35, 3), (8, .iconst 0, 1), (9, .iaload, 1), (10, .if_icmp .gt 5, 3), (13, .iconst 0, 1), (14, .ireturn, 1), (15, .iinc 4 1, 3), (18, .goto (-125), 3), (21, .iconst 0, 1), (22, .istore 4, 2), (24, .iload 4, 2), (26, .aload_n 0, 1), (27, .getfield 71, 3), (30, .if_icmp .ge 186, 3), (33, .iload 4, 2), (35, .iconst 1, 1), (36, .iadd, 1), (37, .aload_n 0, 1), (38, .getfield 71, 3), (41, .irem, 1), (42, .istore 5, 2), (44, .iload 4, 2), (46, .iconst 2, 1), (47, .iadd, 1), (48, .aload_n 0, 1), (49, .getfield 71, 3), (52, .irem, 1), (53, .istore 6, 2), (55, .aload_n 0, 1), (56, .getfield 71, 3), (59, .iconst 2, 1), (60, .if_icmp .le 54, 3), (63, .aload_n 0, 1)]
theorem gl_isFigure_2 : tl_isFigure_2.all (fun r => opB ck_isFigure_2 r.1 && decide (decode ck_isFigure_2 r.1 = .ok (r.2.1, r.2.2))) = true := by decide +kernel
theorem dL_isFigure_129 : decode cL_isFigure 129 = .ok (.iload 4, 2) := sl_row ag_isFigure_2 gl_isFigure_2 (i := 0) (r := (1, .iload 4, 2)) rfl
theorem dL_isFigure_131 : decode cL_isFigure 131 = .ok (.iaload, 1) := sl_row ag_isFigure_2 gl_isFigure_2 (i := 1) (r := (3, .iaload, 1)) rfl
theorem dL_isFigure_132 : decode cL_isFigure 132 = .ok (.aload_n 0, 1) := sl_row ag_isFigure_2 gl_isFigure_2 (i := 2) (r := (4, .aload_n 0, 1)) rfl
theorem dL_isFigure_133 : decode cL_isFigure 133 = .ok (.getfield 35, 3) := sl_row ag_isFigure_2 gl_isFigure_2 (i := 3) (r := (5, .getfield 35, 3)) rfl
theorem dL_isFigure_136 : decode cL_isFigure 136 = .ok (.iconst 0, 1) := sl_row ag_isFigure_2 gl_isFigure_2 (i := 4) (r := (8, .iconst 0, 1)) rfl
theorem dL_isFigure_137 : decode cL_isFigure 137 = .ok (.iaload, 1) := sl_row ag_isFigure_2 gl_isFigure_2 (i := 5) (r := (9, .iaload, 1)) rfl
theorem dL_isFigure_138 : decode cL_isFigure 138 = .ok (.if_icmp .gt 5, 3) := sl_row ag_isFigure_2 gl_isFigure_2 (i := 6) (r := (10, .if_icmp .gt 5, 3)) rfl
theorem dL_isFigure_141 : decode cL_isFigure 141 = .ok (.iconst 0, 1) := sl_row ag_isFigure_2 gl_isFigure_2 (i := 7) (r := (13, .iconst 0, 1)) rfl
theorem dL_isFigure_142 : decode cL_isFigure 142 = .ok (.ireturn, 1) := sl_row ag_isFigure_2 gl_isFigure_2 (i := 8) (r := (14, .ireturn, 1)) rfl
theorem dL_isFigure_143 : decode cL_isFigure 143 = .ok (.iinc 4 1, 3) := sl_row ag_isFigure_2 gl_isFigure_2 (i := 9) (r := (15, .iinc 4 1, 3)) rfl
theorem dL_isFigure_146 : decode cL_isFigure 146 = .ok (.goto (-125), 3) := sl_row ag_isFigure_2 gl_isFigure_2 (i := 10) (r := (18, .goto (-125), 3)) rfl
theorem dL_isFigure_149 : decode cL_isFigure 149 = .ok (.iconst 0, 1) := sl_row ag_isFigure_2 gl_isFigure_2 (i := 11) (r := (21, .iconst 0, 1)) rfl
theorem dL_isFigure_150 : decode cL_isFigure 150 = .ok (.istore 4, 2) := sl_row ag_isFigure_2 gl_isFigure_2 (i := 12) (r := (22, .istore 4, 2)) rfl
theorem dL_isFigure_152 : decode cL_isFigure 152 = .ok (.iload 4, 2) := sl_row ag_isFigure_2 gl_isFigure_2 (i := 13) (r := (24, .iload 4, 2)) rfl
theorem dL_isFigure_154 : decode cL_isFigure 154 = .ok (.aload_n 0, 1) := sl_row ag_isFigure_2 gl_isFigure_2 (i := 14) (r := (26, .aload_n 0, 1)) rfl
theorem dL_isFigure_155 : decode cL_isFigure 155 = .ok (.getfield 71, 3) := sl_row ag_isFigure_2 gl_isFigure_2 (i := 15) (r := (27, .getfield 71, 3)) rfl
theorem dL_isFigure_158 : decode cL_isFigure 158 = .ok (.if_icmp .ge 186, 3) := sl_row ag_isFigure_2 gl_isFigure_2 (i := 16) (r := (30, .if_icmp .ge 186, 3)) rfl
theorem dL_isFigure_161 : decode cL_isFigure 161 = .ok (.iload 4, 2) := sl_row ag_isFigure_2 gl_isFigure_2 (i := 17) (r := (33, .iload 4, 2)) rfl
theorem dL_isFigure_163 : decode cL_isFigure 163 = .ok (.iconst 1, 1) := sl_row ag_isFigure_2 gl_isFigure_2 (i := 18) (r := (35, .iconst 1, 1)) rfl
theorem dL_isFigure_164 : decode cL_isFigure 164 = .ok (.iadd, 1) := sl_row ag_isFigure_2 gl_isFigure_2 (i := 19) (r := (36, .iadd, 1)) rfl
theorem dL_isFigure_165 : decode cL_isFigure 165 = .ok (.aload_n 0, 1) := sl_row ag_isFigure_2 gl_isFigure_2 (i := 20) (r := (37, .aload_n 0, 1)) rfl
theorem dL_isFigure_166 : decode cL_isFigure 166 = .ok (.getfield 71, 3) := sl_row ag_isFigure_2 gl_isFigure_2 (i := 21) (r := (38, .getfield 71, 3)) rfl
theorem dL_isFigure_169 : decode cL_isFigure 169 = .ok (.irem, 1) := sl_row ag_isFigure_2 gl_isFigure_2 (i := 22) (r := (41, .irem, 1)) rfl
theorem dL_isFigure_170 : decode cL_isFigure 170 = .ok (.istore 5, 2) := sl_row ag_isFigure_2 gl_isFigure_2 (i := 23) (r := (42, .istore 5, 2)) rfl
theorem dL_isFigure_172 : decode cL_isFigure 172 = .ok (.iload 4, 2) := sl_row ag_isFigure_2 gl_isFigure_2 (i := 24) (r := (44, .iload 4, 2)) rfl
theorem dL_isFigure_174 : decode cL_isFigure 174 = .ok (.iconst 2, 1) := sl_row ag_isFigure_2 gl_isFigure_2 (i := 25) (r := (46, .iconst 2, 1)) rfl
theorem dL_isFigure_175 : decode cL_isFigure 175 = .ok (.iadd, 1) := sl_row ag_isFigure_2 gl_isFigure_2 (i := 26) (r := (47, .iadd, 1)) rfl
theorem dL_isFigure_176 : decode cL_isFigure 176 = .ok (.aload_n 0, 1) := sl_row ag_isFigure_2 gl_isFigure_2 (i := 27) (r := (48, .aload_n 0, 1)) rfl
theorem dL_isFigure_177 : decode cL_isFigure 177 = .ok (.getfield 71, 3) := sl_row ag_isFigure_2 gl_isFigure_2 (i := 28) (r := (49, .getfield 71, 3)) rfl
theorem dL_isFigure_180 : decode cL_isFigure 180 = .ok (.irem, 1) := sl_row ag_isFigure_2 gl_isFigure_2 (i := 29) (r := (52, .irem, 1)) rfl
theorem dL_isFigure_181 : decode cL_isFigure 181 = .ok (.istore 6, 2) := sl_row ag_isFigure_2 gl_isFigure_2 (i := 30) (r := (53, .istore 6, 2)) rfl
theorem dL_isFigure_183 : decode cL_isFigure 183 = .ok (.aload_n 0, 1) := sl_row ag_isFigure_2 gl_isFigure_2 (i := 31) (r := (55, .aload_n 0, 1)) rfl
theorem dL_isFigure_184 : decode cL_isFigure 184 = .ok (.getfield 71, 3) := sl_row ag_isFigure_2 gl_isFigure_2 (i := 32) (r := (56, .getfield 71, 3)) rfl
theorem dL_isFigure_187 : decode cL_isFigure 187 = .ok (.iconst 2, 1) := sl_row ag_isFigure_2 gl_isFigure_2 (i := 33) (r := (59, .iconst 2, 1)) rfl
theorem dL_isFigure_188 : decode cL_isFigure 188 = .ok (.if_icmp .le 54, 3) := sl_row ag_isFigure_2 gl_isFigure_2 (i := 34) (r := (60, .if_icmp .le 54, 3)) rfl
theorem dL_isFigure_191 : decode cL_isFigure 191 = .ok (.aload_n 0, 1) := sl_row ag_isFigure_2 gl_isFigure_2 (i := 35) (r := (63, .aload_n 0, 1)) rfl
def ck_isFigure_3 : ByteArray := .mk #[0xb4, 0x00, 0x20, 0x15, 0x04, 0x2e, 0x2a, 0xb4, 0x00, 0x23, 0x15, 0x04, 0x2e, 0x2a, 0xb4, 0x00, 0x20, 0x15, 0x05, 0x2e, 0x2a, 0xb4, 0x00, 0x23, 0x15, 0x05, 0x2e, 0x2a, 0xb4, 0x00, 0x20, 0x15, 0x06, 0x2e, 0x2a, 0xb4, 0x00, 0x23, 0x15, 0x06, 0x2e, 0xb8, 0x00, 0x4d, 0x04, 0x9f, 0x00, 0x05, 0x03, 0xac, 0x1b, 0x2a, 0xb4, 0x00, 0x20, 0x15, 0x04, 0x2e, 0x2a, 0xb4, 0x00, 0x23, 0x15, 0x05, 0x2e, 0x68, 0x2a, 0xb4]
set_option maxRecDepth 20000 in
theorem ag_isFigure_3 : ∀ q, agB cL_isFigure ck_isFigure_3 (192 + q) q := agB_of 192 (by decide +kernel)
def tl_isFigure_3 : List (Nat × Instr × Nat) := [(0, .getfield 32, 3), (3, .iload 4, 2), (5, .iaload, 1), (6, .aload_n 0, 1), (7, .getfield 35, 3), (10, .iload 4, 2), (12, .iaload, 1), (13, .aload_n 0, 1), (14, .getfield 32, 3), (17, .iload 5, 2), (19, .iaload, 1), (20, .aload_n 0, 1), (21, .getfield 35, 3), (24, .iload 5, 2), (26, .iaload, 1), (27, .aload_n 0, 1), (28, .getfield 32, 3), (31, .iload 6, 2), (33, .iaload, 1), (34, .aload_n 0, 1), (35, .getfield 35, 3), (38, .iload 6, 2), (40, .iaload, 1), (41, .invokestatic 77, 3), (44, .iconst 1, 1), (45, .if_icmp .eq 5, 3), (48, .iconst 0, 1), (49, .ireturn, 1), (50, .iload_n 1, 1), (51, .aload_n 0, 1), (52, .getfield 32, 3), (55, .iload 4, 2), (57, .iaload, 1), (58, .aload_n 0, 1), (59, .getfield 35, 3), (62, .iload 5, 2)]
theorem gl_isFigure_3 : tl_isFigure_3.all (fun r => opB ck_isFigure_3 r.1 && decide (decode ck_isFigure_3 r.1 = .ok (r.2.1, r.2.2))) = true := by decide +kernel
theorem dL_isFigure_192 : decode cL_isFigure 192 = .ok (.getfield 32, 3) := sl_row ag_isFigure_3 gl_isFigure_3 (i := 0) (r := (0, .getfield 32, 3)) rfl
theorem dL_isFigure_195 : decode cL_isFigure 195 = .ok (.iload 4, 2) := sl_row ag_isFigure_3 gl_isFigure_3 (i := 1) (r := (3, .iload 4, 2)) rfl
theorem dL_isFigure_197 : decode cL_isFigure 197 = .ok (.iaload, 1) := sl_row ag_isFigure_3 gl_isFigure_3 (i := 2) (r := (5, .iaload, 1)) rfl
theorem dL_isFigure_198 : decode cL_isFigure 198 = .ok (.aload_n 0, 1) := sl_row ag_isFigure_3 gl_isFigure_3 (i := 3) (r := (6, .aload_n 0, 1)) rfl
theorem dL_isFigure_199 : decode cL_isFigure 199 = .ok (.getfield 35, 3) := sl_row ag_isFigure_3 gl_isFigure_3 (i := 4) (r := (7, .getfield 35, 3)) rfl
theorem dL_isFigure_202 : decode cL_isFigure 202 = .ok (.iload 4, 2) := sl_row ag_isFigure_3 gl_isFigure_3 (i := 5) (r := (10, .iload 4, 2)) rfl
theorem dL_isFigure_204 : decode cL_isFigure 204 = .ok (.iaload, 1) := sl_row ag_isFigure_3 gl_isFigure_3 (i := 6) (r := (12, .iaload, 1)) rfl
theorem dL_isFigure_205 : decode cL_isFigure 205 = .ok (.aload_n 0, 1) := sl_row ag_isFigure_3 gl_isFigure_3 (i := 7) (r := (13, .aload_n 0, 1)) rfl
theorem dL_isFigure_206 : decode cL_isFigure 206 = .ok (.getfield 32, 3) := sl_row ag_isFigure_3 gl_isFigure_3 (i := 8) (r := (14, .getfield 32, 3)) rfl
theorem dL_isFigure_209 : decode cL_isFigure 209 = .ok (.iload 5, 2) := sl_row ag_isFigure_3 gl_isFigure_3 (i := 9) (r := (17, .iload 5, 2)) rfl
theorem dL_isFigure_211 : decode cL_isFigure 211 = .ok (.iaload, 1) := sl_row ag_isFigure_3 gl_isFigure_3 (i := 10) (r := (19, .iaload, 1)) rfl
theorem dL_isFigure_212 : decode cL_isFigure 212 = .ok (.aload_n 0, 1) := sl_row ag_isFigure_3 gl_isFigure_3 (i := 11) (r := (20, .aload_n 0, 1)) rfl
theorem dL_isFigure_213 : decode cL_isFigure 213 = .ok (.getfield 35, 3) := sl_row ag_isFigure_3 gl_isFigure_3 (i := 12) (r := (21, .getfield 35, 3)) rfl
theorem dL_isFigure_216 : decode cL_isFigure 216 = .ok (.iload 5, 2) := sl_row ag_isFigure_3 gl_isFigure_3 (i := 13) (r := (24, .iload 5, 2)) rfl
theorem dL_isFigure_218 : decode cL_isFigure 218 = .ok (.iaload, 1) := sl_row ag_isFigure_3 gl_isFigure_3 (i := 14) (r := (26, .iaload, 1)) rfl
theorem dL_isFigure_219 : decode cL_isFigure 219 = .ok (.aload_n 0, 1) := sl_row ag_isFigure_3 gl_isFigure_3 (i := 15) (r := (27, .aload_n 0, 1)) rfl
theorem dL_isFigure_220 : decode cL_isFigure 220 = .ok (.getfield 32, 3) := sl_row ag_isFigure_3 gl_isFigure_3 (i := 16) (r := (28, .getfield 32, 3)) rfl
theorem dL_isFigure_223 : decode cL_isFigure 223 = .ok (.iload 6, 2) := sl_row ag_isFigure_3 gl_isFigure_3 (i := 17) (r := (31, .iload 6, 2)) rfl
theorem dL_isFigure_225 : decode cL_isFigure 225 = .ok (.iaload, 1) := sl_row ag_isFigure_3 gl_isFigure_3 (i := 18) (r := (33, .iaload, 1)) rfl
theorem dL_isFigure_226 : decode cL_isFigure 226 = .ok (.aload_n 0, 1) := sl_row ag_isFigure_3 gl_isFigure_3 (i := 19) (r := (34, .aload_n 0, 1)) rfl
theorem dL_isFigure_227 : decode cL_isFigure 227 = .ok (.getfield 35, 3) := sl_row ag_isFigure_3 gl_isFigure_3 (i := 20) (r := (35, .getfield 35, 3)) rfl
theorem dL_isFigure_230 : decode cL_isFigure 230 = .ok (.iload 6, 2) := sl_row ag_isFigure_3 gl_isFigure_3 (i := 21) (r := (38, .iload 6, 2)) rfl
theorem dL_isFigure_232 : decode cL_isFigure 232 = .ok (.iaload, 1) := sl_row ag_isFigure_3 gl_isFigure_3 (i := 22) (r := (40, .iaload, 1)) rfl
theorem dL_isFigure_233 : decode cL_isFigure 233 = .ok (.invokestatic 77, 3) := sl_row ag_isFigure_3 gl_isFigure_3 (i := 23) (r := (41, .invokestatic 77, 3)) rfl
theorem dL_isFigure_236 : decode cL_isFigure 236 = .ok (.iconst 1, 1) := sl_row ag_isFigure_3 gl_isFigure_3 (i := 24) (r := (44, .iconst 1, 1)) rfl
theorem dL_isFigure_237 : decode cL_isFigure 237 = .ok (.if_icmp .eq 5, 3) := sl_row ag_isFigure_3 gl_isFigure_3 (i := 25) (r := (45, .if_icmp .eq 5, 3)) rfl
theorem dL_isFigure_240 : decode cL_isFigure 240 = .ok (.iconst 0, 1) := sl_row ag_isFigure_3 gl_isFigure_3 (i := 26) (r := (48, .iconst 0, 1)) rfl
theorem dL_isFigure_241 : decode cL_isFigure 241 = .ok (.ireturn, 1) := sl_row ag_isFigure_3 gl_isFigure_3 (i := 27) (r := (49, .ireturn, 1)) rfl
theorem dL_isFigure_242 : decode cL_isFigure 242 = .ok (.iload_n 1, 1) := sl_row ag_isFigure_3 gl_isFigure_3 (i := 28) (r := (50, .iload_n 1, 1)) rfl
theorem dL_isFigure_243 : decode cL_isFigure 243 = .ok (.aload_n 0, 1) := sl_row ag_isFigure_3 gl_isFigure_3 (i := 29) (r := (51, .aload_n 0, 1)) rfl
theorem dL_isFigure_244 : decode cL_isFigure 244 = .ok (.getfield 32, 3) := sl_row ag_isFigure_3 gl_isFigure_3 (i := 30) (r := (52, .getfield 32, 3)) rfl
theorem dL_isFigure_247 : decode cL_isFigure 247 = .ok (.iload 4, 2) := sl_row ag_isFigure_3 gl_isFigure_3 (i := 31) (r := (55, .iload 4, 2)) rfl
theorem dL_isFigure_249 : decode cL_isFigure 249 = .ok (.iaload, 1) := sl_row ag_isFigure_3 gl_isFigure_3 (i := 32) (r := (57, .iaload, 1)) rfl
theorem dL_isFigure_250 : decode cL_isFigure 250 = .ok (.aload_n 0, 1) := sl_row ag_isFigure_3 gl_isFigure_3 (i := 33) (r := (58, .aload_n 0, 1)) rfl
theorem dL_isFigure_251 : decode cL_isFigure 251 = .ok (.getfield 35, 3) := sl_row ag_isFigure_3 gl_isFigure_3 (i := 34) (r := (59, .getfield 35, 3)) rfl
theorem dL_isFigure_254 : decode cL_isFigure 254 = .ok (.iload 5, 2) := sl_row ag_isFigure_3 gl_isFigure_3 (i := 35) (r := (62, .iload 5, 2)) rfl
def ck_isFigure_4 : ByteArray := .mk #[0x2e, 0x68, 0x2a, 0xb4, 0x00, 0x23, 0x15, 0x04, 0x2e, 0x2a, 0xb4, 0x00, 0x20, 0x15, 0x05, 0x2e, 0x68, 0x64, 0x60, 0x3c, 0x1c, 0x2a, 0xb4, 0x00, 0x20, 0x15, 0x05, 0x2e, 0x2a, 0xb4, 0x00, 0x20, 0x15, 0x04, 0x2e, 0x64, 0x2a, 0xb4, 0x00, 0x23, 0x15, 0x05, 0x2e, 0x2a, 0xb4, 0x00, 0x23, 0x15, 0x04, 0x2e, 0x64, 0xb8, 0x00, 0x51, 0x60, 0x3d, 0x2a, 0xb4, 0x00, 0x0a, 0x2a, 0xb4, 0x00, 0x20, 0x15, 0x04, 0x2e, 0x2a]
set_option maxRecDepth 20000 in
theorem ag_isFigure_4 : ∀ q, agB cL_isFigure ck_isFigure_4 (256 + q) q := agB_of 256 (by decide +kernel)
def tl_isFigure_4 : List (Nat × Instr × Nat) := [(0, .iaload, 1), (1, .imul, 1), (2, .aload_n 0, 1), (3, .getfield 35, 3), (6, .iload 4, 2), (8, .iaload, 1), (9, .aload_n 0, 1), (10, .getfield 32, 3), (13, .iload 5, 2), (15, .iaload, 1), (16, .imul, 1), (17, .isub, 1), (18, .iadd, 1), (19, .istore_n 1, 1), (20, .iload_n 2, 1), (21, .aload_n 0, 1), (22, .getfield 32, 3), (25, .iload 5, 2), (27, .iaload, 1), (28, .aload_n 0, 1), (29, .getfield 32, 3), (32, .iload 4, 2), (34, .iaload, 1), (35, .isub, 1), (36, .aload_n 0, 1), (37, .getfield 35, 3), (40, .iload 5, 2), (42, .iaload, 1), (43, .aload_n 0, 1), (44, .getfield 35, 3), (47, .iload 4, 2), (49, .iaload, 1), (50, .isub, 1), (51, .invokestatic 81, 3), (54, .iadd, 1), (55, .istore_n 2, 1), (56, .aload_n 0, 1), (57, .getfield 10, 3), (60, .aload_n 0, 1), (61, .getfield 32, 3)]
theorem gl_isFigure_4 : tl_isFigure_4.all (fun r => opB ck_isFigure_4 r.1 && decide (decode ck_isFigure_4 r.1 = .ok (r.2.1, r.2.2))) = true := by decide +kernel
theorem dL_isFigure_256 : decode cL_isFigure 256 = .ok (.iaload, 1) := sl_row ag_isFigure_4 gl_isFigure_4 (i := 0) (r := (0, .iaload, 1)) rfl
theorem dL_isFigure_257 : decode cL_isFigure 257 = .ok (.imul, 1) := sl_row ag_isFigure_4 gl_isFigure_4 (i := 1) (r := (1, .imul, 1)) rfl
theorem dL_isFigure_258 : decode cL_isFigure 258 = .ok (.aload_n 0, 1) := sl_row ag_isFigure_4 gl_isFigure_4 (i := 2) (r := (2, .aload_n 0, 1)) rfl
theorem dL_isFigure_259 : decode cL_isFigure 259 = .ok (.getfield 35, 3) := sl_row ag_isFigure_4 gl_isFigure_4 (i := 3) (r := (3, .getfield 35, 3)) rfl
theorem dL_isFigure_262 : decode cL_isFigure 262 = .ok (.iload 4, 2) := sl_row ag_isFigure_4 gl_isFigure_4 (i := 4) (r := (6, .iload 4, 2)) rfl
theorem dL_isFigure_264 : decode cL_isFigure 264 = .ok (.iaload, 1) := sl_row ag_isFigure_4 gl_isFigure_4 (i := 5) (r := (8, .iaload, 1)) rfl
theorem dL_isFigure_265 : decode cL_isFigure 265 = .ok (.aload_n 0, 1) := sl_row ag_isFigure_4 gl_isFigure_4 (i := 6) (r := (9, .aload_n 0, 1)) rfl
theorem dL_isFigure_266 : decode cL_isFigure 266 = .ok (.getfield 32, 3) := sl_row ag_isFigure_4 gl_isFigure_4 (i := 7) (r := (10, .getfield 32, 3)) rfl
theorem dL_isFigure_269 : decode cL_isFigure 269 = .ok (.iload 5, 2) := sl_row ag_isFigure_4 gl_isFigure_4 (i := 8) (r := (13, .iload 5, 2)) rfl
theorem dL_isFigure_271 : decode cL_isFigure 271 = .ok (.iaload, 1) := sl_row ag_isFigure_4 gl_isFigure_4 (i := 9) (r := (15, .iaload, 1)) rfl
theorem dL_isFigure_272 : decode cL_isFigure 272 = .ok (.imul, 1) := sl_row ag_isFigure_4 gl_isFigure_4 (i := 10) (r := (16, .imul, 1)) rfl
theorem dL_isFigure_273 : decode cL_isFigure 273 = .ok (.isub, 1) := sl_row ag_isFigure_4 gl_isFigure_4 (i := 11) (r := (17, .isub, 1)) rfl
theorem dL_isFigure_274 : decode cL_isFigure 274 = .ok (.iadd, 1) := sl_row ag_isFigure_4 gl_isFigure_4 (i := 12) (r := (18, .iadd, 1)) rfl
theorem dL_isFigure_275 : decode cL_isFigure 275 = .ok (.istore_n 1, 1) := sl_row ag_isFigure_4 gl_isFigure_4 (i := 13) (r := (19, .istore_n 1, 1)) rfl
theorem dL_isFigure_276 : decode cL_isFigure 276 = .ok (.iload_n 2, 1) := sl_row ag_isFigure_4 gl_isFigure_4 (i := 14) (r := (20, .iload_n 2, 1)) rfl
theorem dL_isFigure_277 : decode cL_isFigure 277 = .ok (.aload_n 0, 1) := sl_row ag_isFigure_4 gl_isFigure_4 (i := 15) (r := (21, .aload_n 0, 1)) rfl
theorem dL_isFigure_278 : decode cL_isFigure 278 = .ok (.getfield 32, 3) := sl_row ag_isFigure_4 gl_isFigure_4 (i := 16) (r := (22, .getfield 32, 3)) rfl
theorem dL_isFigure_281 : decode cL_isFigure 281 = .ok (.iload 5, 2) := sl_row ag_isFigure_4 gl_isFigure_4 (i := 17) (r := (25, .iload 5, 2)) rfl
theorem dL_isFigure_283 : decode cL_isFigure 283 = .ok (.iaload, 1) := sl_row ag_isFigure_4 gl_isFigure_4 (i := 18) (r := (27, .iaload, 1)) rfl
theorem dL_isFigure_284 : decode cL_isFigure 284 = .ok (.aload_n 0, 1) := sl_row ag_isFigure_4 gl_isFigure_4 (i := 19) (r := (28, .aload_n 0, 1)) rfl
theorem dL_isFigure_285 : decode cL_isFigure 285 = .ok (.getfield 32, 3) := sl_row ag_isFigure_4 gl_isFigure_4 (i := 20) (r := (29, .getfield 32, 3)) rfl
theorem dL_isFigure_288 : decode cL_isFigure 288 = .ok (.iload 4, 2) := sl_row ag_isFigure_4 gl_isFigure_4 (i := 21) (r := (32, .iload 4, 2)) rfl
theorem dL_isFigure_290 : decode cL_isFigure 290 = .ok (.iaload, 1) := sl_row ag_isFigure_4 gl_isFigure_4 (i := 22) (r := (34, .iaload, 1)) rfl
theorem dL_isFigure_291 : decode cL_isFigure 291 = .ok (.isub, 1) := sl_row ag_isFigure_4 gl_isFigure_4 (i := 23) (r := (35, .isub, 1)) rfl
theorem dL_isFigure_292 : decode cL_isFigure 292 = .ok (.aload_n 0, 1) := sl_row ag_isFigure_4 gl_isFigure_4 (i := 24) (r := (36, .aload_n 0, 1)) rfl
theorem dL_isFigure_293 : decode cL_isFigure 293 = .ok (.getfield 35, 3) := sl_row ag_isFigure_4 gl_isFigure_4 (i := 25) (r := (37, .getfield 35, 3)) rfl
theorem dL_isFigure_296 : decode cL_isFigure 296 = .ok (.iload 5, 2) := sl_row ag_isFigure_4 gl_isFigure_4 (i := 26) (r := (40, .iload 5, 2)) rfl
theorem dL_isFigure_298 : decode cL_isFigure 298 = .ok (.iaload, 1) := sl_row ag_isFigure_4 gl_isFigure_4 (i := 27) (r := (42, .iaload, 1)) rfl
theorem dL_isFigure_299 : decode cL_isFigure 299 = .ok (.aload_n 0, 1) := sl_row ag_isFigure_4 gl_isFigure_4 (i := 28) (r := (43, .aload_n 0, 1)) rfl
theorem dL_isFigure_300 : decode cL_isFigure 300 = .ok (.getfield 35, 3) := sl_row ag_isFigure_4 gl_isFigure_4 (i := 29) (r := (44, .getfield 35, 3)) rfl
theorem dL_isFigure_303 : decode cL_isFigure 303 = .ok (.iload 4, 2) := sl_row ag_isFigure_4 gl_isFigure_4 (i := 30) (r := (47, .iload 4, 2)) rfl
theorem dL_isFigure_305 : decode cL_isFigure 305 = .ok (.iaload, 1) := sl_row ag_isFigure_4 gl_isFigure_4 (i := 31) (r := (49, .iaload, 1)) rfl
theorem dL_isFigure_306 : decode cL_isFigure 306 = .ok (.isub, 1) := sl_row ag_isFigure_4 gl_isFigure_4 (i := 32) (r := (50, .isub, 1)) rfl
theorem dL_isFigure_307 : decode cL_isFigure 307 = .ok (.invokestatic 81, 3) := sl_row ag_isFigure_4 gl_isFigure_4 (i := 33) (r := (51, .invokestatic 81, 3)) rfl
theorem dL_isFigure_310 : decode cL_isFigure 310 = .ok (.iadd, 1) := sl_row ag_isFigure_4 gl_isFigure_4 (i := 34) (r := (54, .iadd, 1)) rfl
theorem dL_isFigure_311 : decode cL_isFigure 311 = .ok (.istore_n 2, 1) := sl_row ag_isFigure_4 gl_isFigure_4 (i := 35) (r := (55, .istore_n 2, 1)) rfl
theorem dL_isFigure_312 : decode cL_isFigure 312 = .ok (.aload_n 0, 1) := sl_row ag_isFigure_4 gl_isFigure_4 (i := 36) (r := (56, .aload_n 0, 1)) rfl
theorem dL_isFigure_313 : decode cL_isFigure 313 = .ok (.getfield 10, 3) := sl_row ag_isFigure_4 gl_isFigure_4 (i := 37) (r := (57, .getfield 10, 3)) rfl
theorem dL_isFigure_316 : decode cL_isFigure 316 = .ok (.aload_n 0, 1) := sl_row ag_isFigure_4 gl_isFigure_4 (i := 38) (r := (60, .aload_n 0, 1)) rfl
theorem dL_isFigure_317 : decode cL_isFigure 317 = .ok (.getfield 32, 3) := sl_row ag_isFigure_4 gl_isFigure_4 (i := 39) (r := (61, .getfield 32, 3)) rfl
def ck_isFigure_5 : ByteArray := .mk #[0x15, 0x04, 0x2e, 0x2a, 0xb4, 0x00, 0x23, 0x15, 0x04, 0x2e, 0xb6, 0x00, 0x55, 0x99, 0x00, 0x05, 0x03, 0xac, 0x84, 0x04, 0x01, 0xa7, 0xff, 0x43, 0x2a, 0xb4, 0x00, 0x47, 0x04, 0xa0, 0x00, 0x05, 0x04, 0x3d, 0x2a, 0xb4, 0x00, 0x47, 0x05, 0xa0, 0x00, 0x09, 0x04, 0x1c, 0x05, 0x6c, 0x60, 0x3d, 0x2a, 0xb4, 0x00, 0x0a, 0xb6, 0x00, 0x58, 0x1b, 0xa0, 0x00, 0x19, 0x2a, 0xb4, 0x00, 0x0a, 0xb6, 0x00, 0x5b, 0x1c, 0xa0]
set_option maxRecDepth 20000 in
theorem ag_isFigure_5 : ∀ q, agB cL_isFigure ck_isFigure_5 (320 + q) q := agB_of 320 (by decide +kernel)
def tl_isFigure_5 : List (Nat × Instr × Nat) := [(0, .iload 4, 2), (2, .iaload, 1), (3, .aload_n 0, 1), (4, .getfield 35, 3), (7, .iload 4, 2), (9, .iaload, 1), (10, .invokevirtual 85, 3), (13, .ifCond .eq 5, 3), (16, .iconst 0, 1), (17, .ireturn, 1), (18, .iinc 4 1, 3), (21, .goto (-189), 3), (24, .aload_n 0, 1), (25, .getfield 71, 3), (28, .iconst 1, 1), (29, .if_icmp .ne 5, 3), (32, .iconst 1, 1), (33, .istore_n 2, 1), (34, .aload_n 0, 1), (35, .getfield 71, 3), (38, .iconst 2, 1), (39, .if_icmp .ne 9, 3), (42, .iconst 1, 1), (43, .iload_n 2, 1), (44, .iconst 2, 1), (45, .idiv, 1), (46, .iadd, 1), (47, .istore_n 2, 1), (48, .aload_n 0, 1), (49, .getfield 10, 3), (52, .invokevirtual 88, 3), (55, .iload_n 1, 1), (56, .if_icmp .ne 25, 3), (59, .aload_n 0, 1), (60, .getfield 10, 3), (63, .invokevirtual 91, 3)]
theorem gl_isFigure_5 : tl_isFigure_5.all (fun r => opB ck_isFigure_5 r.1 && decide (decode ck_isFigure_5 r.1 = .ok (r.2.1, r.2.2))) = true := by decide +kernel
theorem dL_isFigure_320 : decode cL_isFigure 320 = .ok (.iload 4, 2) := sl_row ag_isFigure_5 gl_isFigure_5 (i := 0) (r := (0, .iload 4, 2)) rfl
theorem dL_isFigure_322 : decode cL_isFigure 322 = .ok (.iaload, 1) := sl_row ag_isFigure_5 gl_isFigure_5 (i := 1) (r := (2, .iaload, 1)) rfl
theorem dL_isFigure_323 : decode cL_isFigure 323 = .ok (.aload_n 0, 1) := sl_row ag_isFigure_5 gl_isFigure_5 (i := 2) (r := (3, .aload_n 0, 1)) rfl
theorem dL_isFigure_324 : decode cL_isFigure 324 = .ok (.getfield 35, 3) := sl_row ag_isFigure_5 gl_isFigure_5 (i := 3) (r := (4, .getfield 35, 3)) rfl
theorem dL_isFigure_327 : decode cL_isFigure 327 = .ok (.iload 4, 2) := sl_row ag_isFigure_5 gl_isFigure_5 (i := 4) (r := (7, .iload 4, 2)) rfl
theorem dL_isFigure_329 : decode cL_isFigure 329 = .ok (.iaload, 1) := sl_row ag_isFigure_5 gl_isFigure_5 (i := 5) (r := (9, .iaload, 1)) rfl
theorem dL_isFigure_330 : decode cL_isFigure 330 = .ok (.invokevirtual 85, 3) := sl_row ag_isFigure_5 gl_isFigure_5 (i := 6) (r := (10, .invokevirtual 85, 3)) rfl
theorem dL_isFigure_333 : decode cL_isFigure 333 = .ok (.ifCond .eq 5, 3) := sl_row ag_isFigure_5 gl_isFigure_5 (i := 7) (r := (13, .ifCond .eq 5, 3)) rfl
theorem dL_isFigure_336 : decode cL_isFigure 336 = .ok (.iconst 0, 1) := sl_row ag_isFigure_5 gl_isFigure_5 (i := 8) (r := (16, .iconst 0, 1)) rfl
theorem dL_isFigure_337 : decode cL_isFigure 337 = .ok (.ireturn, 1) := sl_row ag_isFigure_5 gl_isFigure_5 (i := 9) (r := (17, .ireturn, 1)) rfl
theorem dL_isFigure_338 : decode cL_isFigure 338 = .ok (.iinc 4 1, 3) := sl_row ag_isFigure_5 gl_isFigure_5 (i := 10) (r := (18, .iinc 4 1, 3)) rfl
theorem dL_isFigure_341 : decode cL_isFigure 341 = .ok (.goto (-189), 3) := sl_row ag_isFigure_5 gl_isFigure_5 (i := 11) (r := (21, .goto (-189), 3)) rfl
theorem dL_isFigure_344 : decode cL_isFigure 344 = .ok (.aload_n 0, 1) := sl_row ag_isFigure_5 gl_isFigure_5 (i := 12) (r := (24, .aload_n 0, 1)) rfl
theorem dL_isFigure_345 : decode cL_isFigure 345 = .ok (.getfield 71, 3) := sl_row ag_isFigure_5 gl_isFigure_5 (i := 13) (r := (25, .getfield 71, 3)) rfl
theorem dL_isFigure_348 : decode cL_isFigure 348 = .ok (.iconst 1, 1) := sl_row ag_isFigure_5 gl_isFigure_5 (i := 14) (r := (28, .iconst 1, 1)) rfl
theorem dL_isFigure_349 : decode cL_isFigure 349 = .ok (.if_icmp .ne 5, 3) := sl_row ag_isFigure_5 gl_isFigure_5 (i := 15) (r := (29, .if_icmp .ne 5, 3)) rfl
theorem dL_isFigure_352 : decode cL_isFigure 352 = .ok (.iconst 1, 1) := sl_row ag_isFigure_5 gl_isFigure_5 (i := 16) (r := (32, .iconst 1, 1)) rfl
theorem dL_isFigure_353 : decode cL_isFigure 353 = .ok (.istore_n 2, 1) := sl_row ag_isFigure_5 gl_isFigure_5 (i := 17) (r := (33, .istore_n 2, 1)) rfl
theorem dL_isFigure_354 : decode cL_isFigure 354 = .ok (.aload_n 0, 1) := sl_row ag_isFigure_5 gl_isFigure_5 (i := 18) (r := (34, .aload_n 0, 1)) rfl
theorem dL_isFigure_355 : decode cL_isFigure 355 = .ok (.getfield 71, 3) := sl_row ag_isFigure_5 gl_isFigure_5 (i := 19) (r := (35, .getfield 71, 3)) rfl
theorem dL_isFigure_358 : decode cL_isFigure 358 = .ok (.iconst 2, 1) := sl_row ag_isFigure_5 gl_isFigure_5 (i := 20) (r := (38, .iconst 2, 1)) rfl
theorem dL_isFigure_359 : decode cL_isFigure 359 = .ok (.if_icmp .ne 9, 3) := sl_row ag_isFigure_5 gl_isFigure_5 (i := 21) (r := (39, .if_icmp .ne 9, 3)) rfl
theorem dL_isFigure_362 : decode cL_isFigure 362 = .ok (.iconst 1, 1) := sl_row ag_isFigure_5 gl_isFigure_5 (i := 22) (r := (42, .iconst 1, 1)) rfl
theorem dL_isFigure_363 : decode cL_isFigure 363 = .ok (.iload_n 2, 1) := sl_row ag_isFigure_5 gl_isFigure_5 (i := 23) (r := (43, .iload_n 2, 1)) rfl
theorem dL_isFigure_364 : decode cL_isFigure 364 = .ok (.iconst 2, 1) := sl_row ag_isFigure_5 gl_isFigure_5 (i := 24) (r := (44, .iconst 2, 1)) rfl
theorem dL_isFigure_365 : decode cL_isFigure 365 = .ok (.idiv, 1) := sl_row ag_isFigure_5 gl_isFigure_5 (i := 25) (r := (45, .idiv, 1)) rfl
theorem dL_isFigure_366 : decode cL_isFigure 366 = .ok (.iadd, 1) := sl_row ag_isFigure_5 gl_isFigure_5 (i := 26) (r := (46, .iadd, 1)) rfl
theorem dL_isFigure_367 : decode cL_isFigure 367 = .ok (.istore_n 2, 1) := sl_row ag_isFigure_5 gl_isFigure_5 (i := 27) (r := (47, .istore_n 2, 1)) rfl
theorem dL_isFigure_368 : decode cL_isFigure 368 = .ok (.aload_n 0, 1) := sl_row ag_isFigure_5 gl_isFigure_5 (i := 28) (r := (48, .aload_n 0, 1)) rfl
theorem dL_isFigure_369 : decode cL_isFigure 369 = .ok (.getfield 10, 3) := sl_row ag_isFigure_5 gl_isFigure_5 (i := 29) (r := (49, .getfield 10, 3)) rfl
theorem dL_isFigure_372 : decode cL_isFigure 372 = .ok (.invokevirtual 88, 3) := sl_row ag_isFigure_5 gl_isFigure_5 (i := 30) (r := (52, .invokevirtual 88, 3)) rfl
theorem dL_isFigure_375 : decode cL_isFigure 375 = .ok (.iload_n 1, 1) := sl_row ag_isFigure_5 gl_isFigure_5 (i := 31) (r := (55, .iload_n 1, 1)) rfl
theorem dL_isFigure_376 : decode cL_isFigure 376 = .ok (.if_icmp .ne 25, 3) := sl_row ag_isFigure_5 gl_isFigure_5 (i := 32) (r := (56, .if_icmp .ne 25, 3)) rfl
theorem dL_isFigure_379 : decode cL_isFigure 379 = .ok (.aload_n 0, 1) := sl_row ag_isFigure_5 gl_isFigure_5 (i := 33) (r := (59, .aload_n 0, 1)) rfl
theorem dL_isFigure_380 : decode cL_isFigure 380 = .ok (.getfield 10, 3) := sl_row ag_isFigure_5 gl_isFigure_5 (i := 34) (r := (60, .getfield 10, 3)) rfl
theorem dL_isFigure_383 : decode cL_isFigure 383 = .ok (.invokevirtual 91, 3) := sl_row ag_isFigure_5 gl_isFigure_5 (i := 35) (r := (63, .invokevirtual 91, 3)) rfl
def ck_isFigure_6 : ByteArray := .mk #[0x00, 0x5b, 0x1c, 0xa0, 0x00, 0x0e, 0x2a, 0xb4, 0x00, 0x0a, 0xb6, 0x00, 0x5e, 0x1d, 0x9f, 0x00, 0x05, 0x03, 0xac, 0x2a, 0xb4, 0x00, 0x47, 0x06, 0xa2, 0x00, 0x19, 0x1b, 0x9a, 0x00, 0x11, 0x2a, 0xb4, 0x00, 0x0a, 0xb6, 0x00, 0x61, 0x9a, 0x00, 0x07, 0x04, 0xa7, 0x00, 0x25, 0x03, 0xa7, 0x00, 0x21, 0x1b, 0x05, 0x2a, 0xb4, 0x00, 0x0a, 0xb6, 0x00, 0x61, 0x68, 0x1c, 0x60, 0x05, 0x64, 0xa0, 0x00, 0x0f, 0x2a, 0x1b]
set_option maxRecDepth 20000 in
theorem ag_isFigure_6 : ∀ q, agB cL_isFigure ck_isFigure_6 (384 + q) q := agB_of 384 (by decide +kernel)
def tl_isFigure_6 : List (Nat × Instr × Nat) := [(2, .iload_n 2, 1), (3, .if_icmp .ne 14, 3), (6, .aload_n 0, 1), (7, .getfield 10, 3), (10, .invokevirtual 94, 3), (13, .iload_n 3, 1), (14, .if_icmp .eq 5, 3), (17, .iconst 0, 1), (18, .ireturn, 1), (19, .aload_n 0, 1), (20, .getfield 71, 3), (23, .iconst 3, 1), (24, .if_icmp .ge 25, 3), (27, .iload_n 1, 1), (28, .ifCond .ne 17, 3), (31, .aload_n 0, 1), (32, .getfield 10, 3), (35, .invokevirtual 97, 3), (38, .ifCond .ne 7, 3), (41, .iconst 1, 1), (42, .goto 37, 3), (45, .iconst 0, 1), (46, .goto 33, 3), (49, .iload_n 1, 1), (50, .iconst 2, 1), (51, .aload_n 0, 1), (52, .getfield 10, 3), (55, .invokevirtual 97, 3), (58, .imul, 1), (59, .iload_n 2, 1), (60, .iadd, 1), (61, .iconst 2, 1), (62, .isub, 1), (63, .if_icmp .ne 15, 3)]
theorem gl_isFigure_6 : tl_isFigure_6.all (fun r => opB ck_isFigure_6 r.1 && decide (decode ck_isFigure_6 r.1 = .ok (r.2.1, r.2.2))) = true := by decide +kernel
theorem dL_isFigure_386 : decode cL_isFigure 386 = .ok (.iload_n 2, 1) := sl_row ag_isFigure_6 gl_isFigure_6 (i := 0) (r := (2, .iload_n 2, 1)) rfl
theorem dL_isFigure_387 : decode cL_isFigure 387 = .ok (.if_icmp .ne 14, 3) := sl_row ag_isFigure_6 gl_isFigure_6 (i := 1) (r := (3, .if_icmp .ne 14, 3)) rfl
theorem dL_isFigure_390 : decode cL_isFigure 390 = .ok (.aload_n 0, 1) := sl_row ag_isFigure_6 gl_isFigure_6 (i := 2) (r := (6, .aload_n 0, 1)) rfl
theorem dL_isFigure_391 : decode cL_isFigure 391 = .ok (.getfield 10, 3) := sl_row ag_isFigure_6 gl_isFigure_6 (i := 3) (r := (7, .getfield 10, 3)) rfl
theorem dL_isFigure_394 : decode cL_isFigure 394 = .ok (.invokevirtual 94, 3) := sl_row ag_isFigure_6 gl_isFigure_6 (i := 4) (r := (10, .invokevirtual 94, 3)) rfl
theorem dL_isFigure_397 : decode cL_isFigure 397 = .ok (.iload_n 3, 1) := sl_row ag_isFigure_6 gl_isFigure_6 (i := 5) (r := (13, .iload_n 3, 1)) rfl
theorem dL_isFigure_398 : decode cL_isFigure 398 = .ok (.if_icmp .eq 5, 3) := sl_row ag_isFigure_6 gl_isFigure_6 (i := 6) (r := (14, .if_icmp .eq 5, 3)) rfl
theorem dL_isFigure_401 : decode cL_isFigure 401 = .ok (.iconst 0, 1) := sl_row ag_isFigure_6 gl_isFigure_6 (i := 7) (r := (17, .iconst 0, 1)) rfl
theorem dL_isFigure_402 : decode cL_isFigure 402 = .ok (.ireturn, 1) := sl_row ag_isFigure_6 gl_isFigure_6 (i := 8) (r := (18, .ireturn, 1)) rfl
theorem dL_isFigure_403 : decode cL_isFigure 403 = .ok (.aload_n 0, 1) := sl_row ag_isFigure_6 gl_isFigure_6 (i := 9) (r := (19, .aload_n 0, 1)) rfl
theorem dL_isFigure_404 : decode cL_isFigure 404 = .ok (.getfield 71, 3) := sl_row ag_isFigure_6 gl_isFigure_6 (i := 10) (r := (20, .getfield 71, 3)) rfl
theorem dL_isFigure_407 : decode cL_isFigure 407 = .ok (.iconst 3, 1) := sl_row ag_isFigure_6 gl_isFigure_6 (i := 11) (r := (23, .iconst 3, 1)) rfl
theorem dL_isFigure_408 : decode cL_isFigure 408 = .ok (.if_icmp .ge 25, 3) := sl_row ag_isFigure_6 gl_isFigure_6 (i := 12) (r := (24, .if_icmp .ge 25, 3)) rfl
theorem dL_isFigure_411 : decode cL_isFigure 411 = .ok (.iload_n 1, 1) := sl_row ag_isFigure_6 gl_isFigure_6 (i := 13) (r := (27, .iload_n 1, 1)) rfl
theorem dL_isFigure_412 : decode cL_isFigure 412 = .ok (.ifCond .ne 17, 3) := sl_row ag_isFigure_6 gl_isFigure_6 (i := 14) (r := (28, .ifCond .ne 17, 3)) rfl
theorem dL_isFigure_415 : decode cL_isFigure 415 = .ok (.aload_n 0, 1) := sl_row ag_isFigure_6 gl_isFigure_6 (i := 15) (r := (31, .aload_n 0, 1)) rfl
theorem dL_isFigure_416 : decode cL_isFigure 416 = .ok (.getfield 10, 3) := sl_row ag_isFigure_6 gl_isFigure_6 (i := 16) (r := (32, .getfield 10, 3)) rfl
theorem dL_isFigure_419 : decode cL_isFigure 419 = .ok (.invokevirtual 97, 3) := sl_row ag_isFigure_6 gl_isFigure_6 (i := 17) (r := (35, .invokevirtual 97, 3)) rfl
theorem dL_isFigure_422 : decode cL_isFigure 422 = .ok (.ifCond .ne 7, 3) := sl_row ag_isFigure_6 gl_isFigure_6 (i := 18) (r := (38, .ifCond .ne 7, 3)) rfl
theorem dL_isFigure_425 : decode cL_isFigure 425 = .ok (.iconst 1, 1) := sl_row ag_isFigure_6 gl_isFigure_6 (i := 19) (r := (41, .iconst 1, 1)) rfl
theorem dL_isFigure_426 : decode cL_isFigure 426 = .ok (.goto 37, 3) := sl_row ag_isFigure_6 gl_isFigure_6 (i := 20) (r := (42, .goto 37, 3)) rfl
theorem dL_isFigure_429 : decode cL_isFigure 429 = .ok (.iconst 0, 1) := sl_row ag_isFigure_6 gl_isFigure_6 (i := 21) (r := (45, .iconst 0, 1)) rfl
theorem dL_isFigure_430 : decode cL_isFigure 430 = .ok (.goto 33, 3) := sl_row ag_isFigure_6 gl_isFigure_6 (i := 22) (r := (46, .goto 33, 3)) rfl
theorem dL_isFigure_433 : decode cL_isFigure 433 = .ok (.iload_n 1, 1) := sl_row ag_isFigure_6 gl_isFigure_6 (i := 23) (r := (49, .iload_n 1, 1)) rfl
theorem dL_isFigure_434 : decode cL_isFigure 434 = .ok (.iconst 2, 1) := sl_row ag_isFigure_6 gl_isFigure_6 (i := 24) (r := (50, .iconst 2, 1)) rfl
theorem dL_isFigure_435 : decode cL_isFigure 435 = .ok (.aload_n 0, 1) := sl_row ag_isFigure_6 gl_isFigure_6 (i := 25) (r := (51, .aload_n 0, 1)) rfl
theorem dL_isFigure_436 : decode cL_isFigure 436 = .ok (.getfield 10, 3) := sl_row ag_isFigure_6 gl_isFigure_6 (i := 26) (r := (52, .getfield 10, 3)) rfl
theorem dL_isFigure_439 : decode cL_isFigure 439 = .ok (.invokevirtual 97, 3) := sl_row ag_isFigure_6 gl_isFigure_6 (i := 27) (r := (55, .invokevirtual 97, 3)) rfl
theorem dL_isFigure_442 : decode cL_isFigure 442 = .ok (.imul, 1) := sl_row ag_isFigure_6 gl_isFigure_6 (i := 28) (r := (58, .imul, 1)) rfl
theorem dL_isFigure_443 : decode cL_isFigure 443 = .ok (.iload_n 2, 1) := sl_row ag_isFigure_6 gl_isFigure_6 (i := 29) (r := (59, .iload_n 2, 1)) rfl
theorem dL_isFigure_444 : decode cL_isFigure 444 = .ok (.iadd, 1) := sl_row ag_isFigure_6 gl_isFigure_6 (i := 30) (r := (60, .iadd, 1)) rfl
theorem dL_isFigure_445 : decode cL_isFigure 445 = .ok (.iconst 2, 1) := sl_row ag_isFigure_6 gl_isFigure_6 (i := 31) (r := (61, .iconst 2, 1)) rfl
theorem dL_isFigure_446 : decode cL_isFigure 446 = .ok (.isub, 1) := sl_row ag_isFigure_6 gl_isFigure_6 (i := 32) (r := (62, .isub, 1)) rfl
theorem dL_isFigure_447 : decode cL_isFigure 447 = .ok (.if_icmp .ne 15, 3) := sl_row ag_isFigure_6 gl_isFigure_6 (i := 33) (r := (63, .if_icmp .ne 15, 3)) rfl
def ck_isFigure_7 : ByteArray := .mk #[0x00, 0x0f, 0x2a, 0x1b, 0xb6, 0x00, 0x64, 0x99, 0x00, 0x07, 0x04, 0xa7, 0x00, 0x04, 0x03, 0xac]
set_option maxRecDepth 20000 in
theorem ag_isFigure_7 : ∀ q, agB cL_isFigure ck_isFigure_7 (448 + q) q := agB_of 448 (by decide +kernel)
def tl_isFigure_7 : List (Nat × Instr × Nat) := [(2, .aload_n 0, 1), (3, .iload_n 1, 1), (4, .invokevirtual 100, 3), (7, .ifCond .eq 7, 3), (10, .iconst 1, 1), (11, .goto 4, 3), (14, .iconst 0, 1), (15, .ireturn, 1)]
theorem gl_isFigure_7 : tl_isFigure_7.all (fun r => opB ck_isFigure_7 r.1 && decide (decode ck_isFigure_7 r.1 = .ok (r.2.1, r.2.2))) = true := by decide +kernel
theorem dL_isFigure_450 : decode cL_isFigure 450 = .ok (.aload_n 0, 1) := sl_row ag_isFigure_7 gl_isFigure_7 (i := 0) (r := (2, .aload_n 0, 1)) rfl
theorem dL_isFigure_451 : decode cL_isFigure 451 = .ok (.iload_n 1, 1) := sl_row ag_isFigure_7 gl_isFigure_7 (i := 1) (r := (3, .iload_n 1, 1)) rfl
theorem dL_isFigure_452 : decode cL_isFigure 452 = .ok (.invokevirtual 100, 3) := sl_row ag_isFigure_7 gl_isFigure_7 (i := 2) (r := (4, .invokevirtual 100, 3)) rfl
theorem dL_isFigure_455 : decode cL_isFigure 455 = .ok (.ifCond .eq 7, 3) := sl_row ag_isFigure_7 gl_isFigure_7 (i := 3) (r := (7, .ifCond .eq 7, 3)) rfl
theorem dL_isFigure_458 : decode cL_isFigure 458 = .ok (.iconst 1, 1) := sl_row ag_isFigure_7 gl_isFigure_7 (i := 4) (r := (10, .iconst 1, 1)) rfl
theorem dL_isFigure_459 : decode cL_isFigure 459 = .ok (.goto 4, 3) := sl_row ag_isFigure_7 gl_isFigure_7 (i := 5) (r := (11, .goto 4, 3)) rfl
theorem dL_isFigure_462 : decode cL_isFigure 462 = .ok (.iconst 0, 1) := sl_row ag_isFigure_7 gl_isFigure_7 (i := 6) (r := (14, .iconst 0, 1)) rfl
theorem dL_isFigure_463 : decode cL_isFigure 463 = .ok (.ireturn, 1) := sl_row ag_isFigure_7 gl_isFigure_7 (i := 7) (r := (15, .ireturn, 1)) rfl
def ck_isWide_0 : ByteArray := .mk #[0x09, 0x41, 0x09, 0x37, 0x04, 0x03, 0x36, 0x06, 0x15, 0x06, 0x2a, 0xb4, 0x00, 0x47, 0xa2, 0x00, 0xdc, 0x15, 0x06, 0x04, 0x60, 0x2a, 0xb4, 0x00, 0x47, 0x70, 0x36, 0x07, 0x09, 0x37, 0x08, 0x03, 0x36, 0x0a, 0x15, 0x0a, 0x2a, 0xb4, 0x00, 0x47, 0xa2, 0x00, 0x53, 0x16, 0x08, 0x2a, 0xb4, 0x00, 0x20, 0x15, 0x07, 0x2e, 0x2a, 0xb4, 0x00, 0x20, 0x15, 0x06, 0x2e, 0x64, 0x85, 0x2a, 0xb4, 0x00, 0x23, 0x15, 0x0a, 0x2e]
set_option maxRecDepth 20000 in
theorem ag_isWide_0 : ∀ q, agB cL_isWide ck_isWide_0 (0 + q) q := agB_of 0 (by decide +kernel)
def tl_isWide_0 : List (Nat × Instr × Nat) := [(0, .lconst 0, 1), (1, .lstore_n 2, 1), (2, .lconst 0, 1), (3, .lstore 4, 2), (5, .iconst 0, 1), (6, .istore 6, 2), (8, .iload 6, 2), (10, .aload_n 0, 1), (11, .getfield 71, 3), (14, .if_icmp .ge 220, 3), (17, .iload 6, 2), (19, .iconst 1, 1), (20, .iadd, 1), (21, .aload_n 0, 1), (22, .getfield 71, 3), (25, .irem, 1), (26, .istore 7, 2), (28, .lconst 0, 1), (29, .lstore 8, 2), (31, .iconst 0, 1), (32, .istore 10, 2), (34, .iload 10, 2), (36, .aload_n 0, 1), (37, .getfield 71, 3), (40, .if_icmp .ge 83, 3), (43, .lload 8, 2), (45, .aload_n 0, 1), (46, .getfield 32, 3), (49, .iload 7, 2), (51, .iaload, 1), (52, .aload_n 0, 1), (53, .getfield 32, 3), (56, .iload 6, 2), (58, .iaload, 1), (59, .isub, 1), (60, .i2l, 1), (61, .aload_n 0, 1), (62, .getfield 35, 3)]
theorem gl_isWide_0 : tl_isWide_0.all (fun r => opB ck_isWide_0 r.1 && decide (decode ck_isWide_0 r.1 = .ok (r.2.1, r.2.2))) = true := by decide +kernel
theorem dL_isWide_0 : decode cL_isWide 0 = .ok (.lconst 0, 1) := sl_row ag_isWide_0 gl_isWide_0 (i := 0) (r := (0, .lconst 0, 1)) rfl
theorem dL_isWide_1 : decode cL_isWide 1 = .ok (.lstore_n 2, 1) := sl_row ag_isWide_0 gl_isWide_0 (i := 1) (r := (1, .lstore_n 2, 1)) rfl
theorem dL_isWide_2 : decode cL_isWide 2 = .ok (.lconst 0, 1) := sl_row ag_isWide_0 gl_isWide_0 (i := 2) (r := (2, .lconst 0, 1)) rfl
theorem dL_isWide_3 : decode cL_isWide 3 = .ok (.lstore 4, 2) := sl_row ag_isWide_0 gl_isWide_0 (i := 3) (r := (3, .lstore 4, 2)) rfl
theorem dL_isWide_5 : decode cL_isWide 5 = .ok (.iconst 0, 1) := sl_row ag_isWide_0 gl_isWide_0 (i := 4) (r := (5, .iconst 0, 1)) rfl
theorem dL_isWide_6 : decode cL_isWide 6 = .ok (.istore 6, 2) := sl_row ag_isWide_0 gl_isWide_0 (i := 5) (r := (6, .istore 6, 2)) rfl
theorem dL_isWide_8 : decode cL_isWide 8 = .ok (.iload 6, 2) := sl_row ag_isWide_0 gl_isWide_0 (i := 6) (r := (8, .iload 6, 2)) rfl
theorem dL_isWide_10 : decode cL_isWide 10 = .ok (.aload_n 0, 1) := sl_row ag_isWide_0 gl_isWide_0 (i := 7) (r := (10, .aload_n 0, 1)) rfl
theorem dL_isWide_11 : decode cL_isWide 11 = .ok (.getfield 71, 3) := sl_row ag_isWide_0 gl_isWide_0 (i := 8) (r := (11, .getfield 71, 3)) rfl
theorem dL_isWide_14 : decode cL_isWide 14 = .ok (.if_icmp .ge 220, 3) := sl_row ag_isWide_0 gl_isWide_0 (i := 9) (r := (14, .if_icmp .ge 220, 3)) rfl
theorem dL_isWide_17 : decode cL_isWide 17 = .ok (.iload 6, 2) := sl_row ag_isWide_0 gl_isWide_0 (i := 10) (r := (17, .iload 6, 2)) rfl
theorem dL_isWide_19 : decode cL_isWide 19 = .ok (.iconst 1, 1) := sl_row ag_isWide_0 gl_isWide_0 (i := 11) (r := (19, .iconst 1, 1)) rfl
theorem dL_isWide_20 : decode cL_isWide 20 = .ok (.iadd, 1) := sl_row ag_isWide_0 gl_isWide_0 (i := 12) (r := (20, .iadd, 1)) rfl
theorem dL_isWide_21 : decode cL_isWide 21 = .ok (.aload_n 0, 1) := sl_row ag_isWide_0 gl_isWide_0 (i := 13) (r := (21, .aload_n 0, 1)) rfl
theorem dL_isWide_22 : decode cL_isWide 22 = .ok (.getfield 71, 3) := sl_row ag_isWide_0 gl_isWide_0 (i := 14) (r := (22, .getfield 71, 3)) rfl
theorem dL_isWide_25 : decode cL_isWide 25 = .ok (.irem, 1) := sl_row ag_isWide_0 gl_isWide_0 (i := 15) (r := (25, .irem, 1)) rfl
theorem dL_isWide_26 : decode cL_isWide 26 = .ok (.istore 7, 2) := sl_row ag_isWide_0 gl_isWide_0 (i := 16) (r := (26, .istore 7, 2)) rfl
theorem dL_isWide_28 : decode cL_isWide 28 = .ok (.lconst 0, 1) := sl_row ag_isWide_0 gl_isWide_0 (i := 17) (r := (28, .lconst 0, 1)) rfl
theorem dL_isWide_29 : decode cL_isWide 29 = .ok (.lstore 8, 2) := sl_row ag_isWide_0 gl_isWide_0 (i := 18) (r := (29, .lstore 8, 2)) rfl
theorem dL_isWide_31 : decode cL_isWide 31 = .ok (.iconst 0, 1) := sl_row ag_isWide_0 gl_isWide_0 (i := 19) (r := (31, .iconst 0, 1)) rfl
theorem dL_isWide_32 : decode cL_isWide 32 = .ok (.istore 10, 2) := sl_row ag_isWide_0 gl_isWide_0 (i := 20) (r := (32, .istore 10, 2)) rfl
theorem dL_isWide_34 : decode cL_isWide 34 = .ok (.iload 10, 2) := sl_row ag_isWide_0 gl_isWide_0 (i := 21) (r := (34, .iload 10, 2)) rfl
theorem dL_isWide_36 : decode cL_isWide 36 = .ok (.aload_n 0, 1) := sl_row ag_isWide_0 gl_isWide_0 (i := 22) (r := (36, .aload_n 0, 1)) rfl
theorem dL_isWide_37 : decode cL_isWide 37 = .ok (.getfield 71, 3) := sl_row ag_isWide_0 gl_isWide_0 (i := 23) (r := (37, .getfield 71, 3)) rfl
theorem dL_isWide_40 : decode cL_isWide 40 = .ok (.if_icmp .ge 83, 3) := sl_row ag_isWide_0 gl_isWide_0 (i := 24) (r := (40, .if_icmp .ge 83, 3)) rfl
theorem dL_isWide_43 : decode cL_isWide 43 = .ok (.lload 8, 2) := sl_row ag_isWide_0 gl_isWide_0 (i := 25) (r := (43, .lload 8, 2)) rfl
theorem dL_isWide_45 : decode cL_isWide 45 = .ok (.aload_n 0, 1) := sl_row ag_isWide_0 gl_isWide_0 (i := 26) (r := (45, .aload_n 0, 1)) rfl
theorem dL_isWide_46 : decode cL_isWide 46 = .ok (.getfield 32, 3) := sl_row ag_isWide_0 gl_isWide_0 (i := 27) (r := (46, .getfield 32, 3)) rfl
theorem dL_isWide_49 : decode cL_isWide 49 = .ok (.iload 7, 2) := sl_row ag_isWide_0 gl_isWide_0 (i := 28) (r := (49, .iload 7, 2)) rfl
theorem dL_isWide_51 : decode cL_isWide 51 = .ok (.iaload, 1) := sl_row ag_isWide_0 gl_isWide_0 (i := 29) (r := (51, .iaload, 1)) rfl
theorem dL_isWide_52 : decode cL_isWide 52 = .ok (.aload_n 0, 1) := sl_row ag_isWide_0 gl_isWide_0 (i := 30) (r := (52, .aload_n 0, 1)) rfl
theorem dL_isWide_53 : decode cL_isWide 53 = .ok (.getfield 32, 3) := sl_row ag_isWide_0 gl_isWide_0 (i := 31) (r := (53, .getfield 32, 3)) rfl
theorem dL_isWide_56 : decode cL_isWide 56 = .ok (.iload 6, 2) := sl_row ag_isWide_0 gl_isWide_0 (i := 32) (r := (56, .iload 6, 2)) rfl
theorem dL_isWide_58 : decode cL_isWide 58 = .ok (.iaload, 1) := sl_row ag_isWide_0 gl_isWide_0 (i := 33) (r := (58, .iaload, 1)) rfl
theorem dL_isWide_59 : decode cL_isWide 59 = .ok (.isub, 1) := sl_row ag_isWide_0 gl_isWide_0 (i := 34) (r := (59, .isub, 1)) rfl
theorem dL_isWide_60 : decode cL_isWide 60 = .ok (.i2l, 1) := sl_row ag_isWide_0 gl_isWide_0 (i := 35) (r := (60, .i2l, 1)) rfl
theorem dL_isWide_61 : decode cL_isWide 61 = .ok (.aload_n 0, 1) := sl_row ag_isWide_0 gl_isWide_0 (i := 36) (r := (61, .aload_n 0, 1)) rfl
theorem dL_isWide_62 : decode cL_isWide 62 = .ok (.getfield 35, 3) := sl_row ag_isWide_0 gl_isWide_0 (i := 37) (r := (62, .getfield 35, 3)) rfl
def ck_isWide_1 : ByteArray := .mk #[0x23, 0x15, 0x0a, 0x2e, 0x2a, 0xb4, 0x00, 0x23, 0x15, 0x06, 0x2e, 0x64, 0x85, 0x69, 0x2a, 0xb4, 0x00, 0x23, 0x15, 0x07, 0x2e, 0x2a, 0xb4, 0x00, 0x23, 0x15, 0x06, 0x2e, 0x64, 0x85, 0x2a, 0xb4, 0x00, 0x20, 0x15, 0x0a, 0x2e, 0x2a, 0xb4, 0x00, 0x20, 0x15, 0x06, 0x2e, 0x64, 0x85, 0x69, 0x65, 0xb8, 0x00, 0x68, 0x37, 0x08, 0x84, 0x0a, 0x01, 0xa7, 0xff, 0xaa, 0x2a, 0xb4, 0x00, 0x20, 0x15, 0x07, 0x2e, 0x2a, 0xb4]
set_option maxRecDepth 20000 in
theorem ag_isWide_1 : ∀ q, agB cL_isWide ck_isWide_1 (64 + q) q := agB_of 64 (by decide +kernel)
def tl_isWide_1 : List (Nat × Instr × Nat) := [(1, .iload 10, 2), (3, .iaload, 1), (4, .aload_n 0, 1), (5, .getfield 35, 3), (8, .iload 6, 2), (10, .iaload, 1), (11, .isub, 1), (12, .i2l, 1), (13, .lmul, 1), (14, .aload_n 0, 1), (15, .getfield 35, 3), (18, .iload 7, 2), (20, .iaload, 1), (21, .aload_n 0, 1), (22, .getfield 35, 3), (25, .iload 6, 2), (27, .iaload, 1), (28, .isub, 1), (29, .i2l, 1), (30, .aload_n 0, 1), (31, .getfield 32, 3), (34, .iload 10, 2), (36, .iaload, 1), (37, .aload_n 0, 1), (38, .getfield 32, 3), (41, .iload 6, 2), (43, .iaload, 1), (44, .isub, 1), (45, .i2l, 1), (46, .lmul, 1), (47, .lsub, 1), (48, .invokestatic 104, 3), (51, .lstore 8, 2), (53, .iinc 10 1, 3), (56, .goto (-86), 3), (59, .aload_n 0, 1), (60, .getfield 32, 3), (63, .iload 7, 2)]
theorem gl_isWide_1 : tl_isWide_1.all (fun r => opB ck_isWide_1 r.1 && decide (decode ck_isWide_1 r.1 = .ok (r.2.1, r.2.2))) = true := by decide +kernel
theorem dL_isWide_65 : decode cL_isWide 65 = .ok (.iload 10, 2) := sl_row ag_isWide_1 gl_isWide_1 (i := 0) (r := (1, .iload 10, 2)) rfl
theorem dL_isWide_67 : decode cL_isWide 67 = .ok (.iaload, 1) := sl_row ag_isWide_1 gl_isWide_1 (i := 1) (r := (3, .iaload, 1)) rfl
theorem dL_isWide_68 : decode cL_isWide 68 = .ok (.aload_n 0, 1) := sl_row ag_isWide_1 gl_isWide_1 (i := 2) (r := (4, .aload_n 0, 1)) rfl
theorem dL_isWide_69 : decode cL_isWide 69 = .ok (.getfield 35, 3) := sl_row ag_isWide_1 gl_isWide_1 (i := 3) (r := (5, .getfield 35, 3)) rfl
theorem dL_isWide_72 : decode cL_isWide 72 = .ok (.iload 6, 2) := sl_row ag_isWide_1 gl_isWide_1 (i := 4) (r := (8, .iload 6, 2)) rfl
theorem dL_isWide_74 : decode cL_isWide 74 = .ok (.iaload, 1) := sl_row ag_isWide_1 gl_isWide_1 (i := 5) (r := (10, .iaload, 1)) rfl
theorem dL_isWide_75 : decode cL_isWide 75 = .ok (.isub, 1) := sl_row ag_isWide_1 gl_isWide_1 (i := 6) (r := (11, .isub, 1)) rfl
theorem dL_isWide_76 : decode cL_isWide 76 = .ok (.i2l, 1) := sl_row ag_isWide_1 gl_isWide_1 (i := 7) (r := (12, .i2l, 1)) rfl
theorem dL_isWide_77 : decode cL_isWide 77 = .ok (.lmul, 1) := sl_row ag_isWide_1 gl_isWide_1 (i := 8) (r := (13, .lmul, 1)) rfl
theorem dL_isWide_78 : decode cL_isWide 78 = .ok (.aload_n 0, 1) := sl_row ag_isWide_1 gl_isWide_1 (i := 9) (r := (14, .aload_n 0, 1)) rfl
theorem dL_isWide_79 : decode cL_isWide 79 = .ok (.getfield 35, 3) := sl_row ag_isWide_1 gl_isWide_1 (i := 10) (r := (15, .getfield 35, 3)) rfl
theorem dL_isWide_82 : decode cL_isWide 82 = .ok (.iload 7, 2) := sl_row ag_isWide_1 gl_isWide_1 (i := 11) (r := (18, .iload 7, 2)) rfl
theorem dL_isWide_84 : decode cL_isWide 84 = .ok (.iaload, 1) := sl_row ag_isWide_1 gl_isWide_1 (i := 12) (r := (20, .iaload, 1)) rfl
theorem dL_isWide_85 : decode cL_isWide 85 = .ok (.aload_n 0, 1) := sl_row ag_isWide_1 gl_isWide_1 (i := 13) (r := (21, .aload_n 0, 1)) rfl
theorem dL_isWide_86 : decode cL_isWide 86 = .ok (.getfield 35, 3) := sl_row ag_isWide_1 gl_isWide_1 (i := 14) (r := (22, .getfield 35, 3)) rfl
theorem dL_isWide_89 : decode cL_isWide 89 = .ok (.iload 6, 2) := sl_row ag_isWide_1 gl_isWide_1 (i := 15) (r := (25, .iload 6, 2)) rfl
theorem dL_isWide_91 : decode cL_isWide 91 = .ok (.iaload, 1) := sl_row ag_isWide_1 gl_isWide_1 (i := 16) (r := (27, .iaload, 1)) rfl
theorem dL_isWide_92 : decode cL_isWide 92 = .ok (.isub, 1) := sl_row ag_isWide_1 gl_isWide_1 (i := 17) (r := (28, .isub, 1)) rfl
theorem dL_isWide_93 : decode cL_isWide 93 = .ok (.i2l, 1) := sl_row ag_isWide_1 gl_isWide_1 (i := 18) (r := (29, .i2l, 1)) rfl
theorem dL_isWide_94 : decode cL_isWide 94 = .ok (.aload_n 0, 1) := sl_row ag_isWide_1 gl_isWide_1 (i := 19) (r := (30, .aload_n 0, 1)) rfl
theorem dL_isWide_95 : decode cL_isWide 95 = .ok (.getfield 32, 3) := sl_row ag_isWide_1 gl_isWide_1 (i := 20) (r := (31, .getfield 32, 3)) rfl
theorem dL_isWide_98 : decode cL_isWide 98 = .ok (.iload 10, 2) := sl_row ag_isWide_1 gl_isWide_1 (i := 21) (r := (34, .iload 10, 2)) rfl
theorem dL_isWide_100 : decode cL_isWide 100 = .ok (.iaload, 1) := sl_row ag_isWide_1 gl_isWide_1 (i := 22) (r := (36, .iaload, 1)) rfl
theorem dL_isWide_101 : decode cL_isWide 101 = .ok (.aload_n 0, 1) := sl_row ag_isWide_1 gl_isWide_1 (i := 23) (r := (37, .aload_n 0, 1)) rfl
theorem dL_isWide_102 : decode cL_isWide 102 = .ok (.getfield 32, 3) := sl_row ag_isWide_1 gl_isWide_1 (i := 24) (r := (38, .getfield 32, 3)) rfl
theorem dL_isWide_105 : decode cL_isWide 105 = .ok (.iload 6, 2) := sl_row ag_isWide_1 gl_isWide_1 (i := 25) (r := (41, .iload 6, 2)) rfl
theorem dL_isWide_107 : decode cL_isWide 107 = .ok (.iaload, 1) := sl_row ag_isWide_1 gl_isWide_1 (i := 26) (r := (43, .iaload, 1)) rfl
theorem dL_isWide_108 : decode cL_isWide 108 = .ok (.isub, 1) := sl_row ag_isWide_1 gl_isWide_1 (i := 27) (r := (44, .isub, 1)) rfl
theorem dL_isWide_109 : decode cL_isWide 109 = .ok (.i2l, 1) := sl_row ag_isWide_1 gl_isWide_1 (i := 28) (r := (45, .i2l, 1)) rfl
theorem dL_isWide_110 : decode cL_isWide 110 = .ok (.lmul, 1) := sl_row ag_isWide_1 gl_isWide_1 (i := 29) (r := (46, .lmul, 1)) rfl
theorem dL_isWide_111 : decode cL_isWide 111 = .ok (.lsub, 1) := sl_row ag_isWide_1 gl_isWide_1 (i := 30) (r := (47, .lsub, 1)) rfl
theorem dL_isWide_112 : decode cL_isWide 112 = .ok (.invokestatic 104, 3) := sl_row ag_isWide_1 gl_isWide_1 (i := 31) (r := (48, .invokestatic 104, 3)) rfl
theorem dL_isWide_115 : decode cL_isWide 115 = .ok (.lstore 8, 2) := sl_row ag_isWide_1 gl_isWide_1 (i := 32) (r := (51, .lstore 8, 2)) rfl
theorem dL_isWide_117 : decode cL_isWide 117 = .ok (.iinc 10 1, 3) := sl_row ag_isWide_1 gl_isWide_1 (i := 33) (r := (53, .iinc 10 1, 3)) rfl
theorem dL_isWide_120 : decode cL_isWide 120 = .ok (.goto (-86), 3) := sl_row ag_isWide_1 gl_isWide_1 (i := 34) (r := (56, .goto (-86), 3)) rfl
theorem dL_isWide_123 : decode cL_isWide 123 = .ok (.aload_n 0, 1) := sl_row ag_isWide_1 gl_isWide_1 (i := 35) (r := (59, .aload_n 0, 1)) rfl
theorem dL_isWide_124 : decode cL_isWide 124 = .ok (.getfield 32, 3) := sl_row ag_isWide_1 gl_isWide_1 (i := 36) (r := (60, .getfield 32, 3)) rfl
theorem dL_isWide_127 : decode cL_isWide 127 = .ok (.iload 7, 2) := sl_row ag_isWide_1 gl_isWide_1 (i := 37) (r := (63, .iload 7, 2)) rfl
def ck_isWide_2 : ByteArray := .mk #[0x07, 0x2e, 0x2a, 0xb4, 0x00, 0x20, 0x15, 0x06, 0x2e, 0x64, 0x85, 0x2a, 0xb4, 0x00, 0x20, 0x15, 0x07, 0x2e, 0x2a, 0xb4, 0x00, 0x20, 0x15, 0x06, 0x2e, 0x64, 0x85, 0x69, 0x2a, 0xb4, 0x00, 0x23, 0x15, 0x07, 0x2e, 0x2a, 0xb4, 0x00, 0x23, 0x15, 0x06, 0x2e, 0x64, 0x85, 0x2a, 0xb4, 0x00, 0x23, 0x15, 0x07, 0x2e, 0x2a, 0xb4, 0x00, 0x23, 0x15, 0x06, 0x2e, 0x64, 0x85, 0x69, 0x61, 0x37, 0x0a, 0x16, 0x04, 0x09, 0x94]
set_option maxRecDepth 20000 in
theorem ag_isWide_2 : ∀ q, agB cL_isWide ck_isWide_2 (128 + q) q := agB_of 128 (by decide +kernel)
def tl_isWide_2 : List (Nat × Instr × Nat) := [(1, .iaload, 1), (2, .aload_n 0, 1), (3, .getfield 32, 3), (6, .iload 6, 2), (8, .iaload, 1), (9, .isub, 1), (10, .i2l, 1), (11, .aload_n 0, 1), (12, .getfield 32, 3), (15, .iload 7, 2), (17, .iaload, 1), (18, .aload_n 0, 1), (19, .getfield 32, 3), (22, .iload 6, 2), (24, .iaload, 1), (25, .isub, 1), (26, .i2l, 1), (27, .lmul, 1), (28, .aload_n 0, 1), (29, .getfield 35, 3), (32, .iload 7, 2), (34, .iaload, 1), (35, .aload_n 0, 1), (36, .getfield 35, 3), (39, .iload 6, 2), (41, .iaload, 1), (42, .isub, 1), (43, .i2l, 1), (44, .aload_n 0, 1), (45, .getfield 35, 3), (48, .iload 7, 2), (50, .iaload, 1), (51, .aload_n 0, 1), (52, .getfield 35, 3), (55, .iload 6, 2), (57, .iaload, 1), (58, .isub, 1), (59, .i2l, 1), (60, .lmul, 1), (61, .ladd, 1), (62, .lstore 10, 2)]
theorem gl_isWide_2 : tl_isWide_2.all (fun r => opB ck_isWide_2 r.1 && decide (decode ck_isWide_2 r.1 = .ok (r.2.1, r.2.2))) = true := by decide +kernel
theorem dL_isWide_129 : decode cL_isWide 129 = .ok (.iaload, 1) := sl_row ag_isWide_2 gl_isWide_2 (i := 0) (r := (1, .iaload, 1)) rfl
theorem dL_isWide_130 : decode cL_isWide 130 = .ok (.aload_n 0, 1) := sl_row ag_isWide_2 gl_isWide_2 (i := 1) (r := (2, .aload_n 0, 1)) rfl
theorem dL_isWide_131 : decode cL_isWide 131 = .ok (.getfield 32, 3) := sl_row ag_isWide_2 gl_isWide_2 (i := 2) (r := (3, .getfield 32, 3)) rfl
theorem dL_isWide_134 : decode cL_isWide 134 = .ok (.iload 6, 2) := sl_row ag_isWide_2 gl_isWide_2 (i := 3) (r := (6, .iload 6, 2)) rfl
theorem dL_isWide_136 : decode cL_isWide 136 = .ok (.iaload, 1) := sl_row ag_isWide_2 gl_isWide_2 (i := 4) (r := (8, .iaload, 1)) rfl
theorem dL_isWide_137 : decode cL_isWide 137 = .ok (.isub, 1) := sl_row ag_isWide_2 gl_isWide_2 (i := 5) (r := (9, .isub, 1)) rfl
theorem dL_isWide_138 : decode cL_isWide 138 = .ok (.i2l, 1) := sl_row ag_isWide_2 gl_isWide_2 (i := 6) (r := (10, .i2l, 1)) rfl
theorem dL_isWide_139 : decode cL_isWide 139 = .ok (.aload_n 0, 1) := sl_row ag_isWide_2 gl_isWide_2 (i := 7) (r := (11, .aload_n 0, 1)) rfl
theorem dL_isWide_140 : decode cL_isWide 140 = .ok (.getfield 32, 3) := sl_row ag_isWide_2 gl_isWide_2 (i := 8) (r := (12, .getfield 32, 3)) rfl
theorem dL_isWide_143 : decode cL_isWide 143 = .ok (.iload 7, 2) := sl_row ag_isWide_2 gl_isWide_2 (i := 9) (r := (15, .iload 7, 2)) rfl
theorem dL_isWide_145 : decode cL_isWide 145 = .ok (.iaload, 1) := sl_row ag_isWide_2 gl_isWide_2 (i := 10) (r := (17, .iaload, 1)) rfl
theorem dL_isWide_146 : decode cL_isWide 146 = .ok (.aload_n 0, 1) := sl_row ag_isWide_2 gl_isWide_2 (i := 11) (r := (18, .aload_n 0, 1)) rfl
theorem dL_isWide_147 : decode cL_isWide 147 = .ok (.getfield 32, 3) := sl_row ag_isWide_2 gl_isWide_2 (i := 12) (r := (19, .getfield 32, 3)) rfl
theorem dL_isWide_150 : decode cL_isWide 150 = .ok (.iload 6, 2) := sl_row ag_isWide_2 gl_isWide_2 (i := 13) (r := (22, .iload 6, 2)) rfl
theorem dL_isWide_152 : decode cL_isWide 152 = .ok (.iaload, 1) := sl_row ag_isWide_2 gl_isWide_2 (i := 14) (r := (24, .iaload, 1)) rfl
theorem dL_isWide_153 : decode cL_isWide 153 = .ok (.isub, 1) := sl_row ag_isWide_2 gl_isWide_2 (i := 15) (r := (25, .isub, 1)) rfl
theorem dL_isWide_154 : decode cL_isWide 154 = .ok (.i2l, 1) := sl_row ag_isWide_2 gl_isWide_2 (i := 16) (r := (26, .i2l, 1)) rfl
theorem dL_isWide_155 : decode cL_isWide 155 = .ok (.lmul, 1) := sl_row ag_isWide_2 gl_isWide_2 (i := 17) (r := (27, .lmul, 1)) rfl
theorem dL_isWide_156 : decode cL_isWide 156 = .ok (.aload_n 0, 1) := sl_row ag_isWide_2 gl_isWide_2 (i := 18) (r := (28, .aload_n 0, 1)) rfl
theorem dL_isWide_157 : decode cL_isWide 157 = .ok (.getfield 35, 3) := sl_row ag_isWide_2 gl_isWide_2 (i := 19) (r := (29, .getfield 35, 3)) rfl
theorem dL_isWide_160 : decode cL_isWide 160 = .ok (.iload 7, 2) := sl_row ag_isWide_2 gl_isWide_2 (i := 20) (r := (32, .iload 7, 2)) rfl
theorem dL_isWide_162 : decode cL_isWide 162 = .ok (.iaload, 1) := sl_row ag_isWide_2 gl_isWide_2 (i := 21) (r := (34, .iaload, 1)) rfl
theorem dL_isWide_163 : decode cL_isWide 163 = .ok (.aload_n 0, 1) := sl_row ag_isWide_2 gl_isWide_2 (i := 22) (r := (35, .aload_n 0, 1)) rfl
theorem dL_isWide_164 : decode cL_isWide 164 = .ok (.getfield 35, 3) := sl_row ag_isWide_2 gl_isWide_2 (i := 23) (r := (36, .getfield 35, 3)) rfl
theorem dL_isWide_167 : decode cL_isWide 167 = .ok (.iload 6, 2) := sl_row ag_isWide_2 gl_isWide_2 (i := 24) (r := (39, .iload 6, 2)) rfl
theorem dL_isWide_169 : decode cL_isWide 169 = .ok (.iaload, 1) := sl_row ag_isWide_2 gl_isWide_2 (i := 25) (r := (41, .iaload, 1)) rfl
theorem dL_isWide_170 : decode cL_isWide 170 = .ok (.isub, 1) := sl_row ag_isWide_2 gl_isWide_2 (i := 26) (r := (42, .isub, 1)) rfl
theorem dL_isWide_171 : decode cL_isWide 171 = .ok (.i2l, 1) := sl_row ag_isWide_2 gl_isWide_2 (i := 27) (r := (43, .i2l, 1)) rfl
theorem dL_isWide_172 : decode cL_isWide 172 = .ok (.aload_n 0, 1) := sl_row ag_isWide_2 gl_isWide_2 (i := 28) (r := (44, .aload_n 0, 1)) rfl
theorem dL_isWide_173 : decode cL_isWide 173 = .ok (.getfield 35, 3) := sl_row ag_isWide_2 gl_isWide_2 (i := 29) (r := (45, .getfield 35, 3)) rfl
theorem dL_isWide_176 : decode cL_isWide 176 = .ok (.iload 7, 2) := sl_row ag_isWide_2 gl_isWide_2 (i := 30) (r := (48, .iload 7, 2)) rfl
theorem dL_isWide_178 : decode cL_isWide 178 = .ok (.iaload, 1) := sl_row ag_isWide_2 gl_isWide_2 (i := 31) (r := (50, .iaload, 1)) rfl
theorem dL_isWide_179 : decode cL_isWide 179 = .ok (.aload_n 0, 1) := sl_row ag_isWide_2 gl_isWide_2 (i := 32) (r := (51, .aload_n 0, 1)) rfl
theorem dL_isWide_180 : decode cL_isWide 180 = .ok (.getfield 35, 3) := sl_row ag_isWide_2 gl_isWide_2 (i := 33) (r := (52, .getfield 35, 3)) rfl
theorem dL_isWide_183 : decode cL_isWide 183 = .ok (.iload 6, 2) := sl_row ag_isWide_2 gl_isWide_2 (i := 34) (r := (55, .iload 6, 2)) rfl
theorem dL_isWide_185 : decode cL_isWide 185 = .ok (.iaload, 1) := sl_row ag_isWide_2 gl_isWide_2 (i := 35) (r := (57, .iaload, 1)) rfl
theorem dL_isWide_186 : decode cL_isWide 186 = .ok (.isub, 1) := sl_row ag_isWide_2 gl_isWide_2 (i := 36) (r := (58, .isub, 1)) rfl
theorem dL_isWide_187 : decode cL_isWide 187 = .ok (.i2l, 1) := sl_row ag_isWide_2 gl_isWide_2 (i := 37) (r := (59, .i2l, 1)) rfl
theorem dL_isWide_188 : decode cL_isWide 188 = .ok (.lmul, 1) := sl_row ag_isWide_2 gl_isWide_2 (i := 38) (r := (60, .lmul, 1)) rfl
theorem dL_isWide_189 : decode cL_isWide 189 = .ok (.ladd, 1) := sl_row ag_isWide_2 gl_isWide_2 (i := 39) (r := (61, .ladd, 1)) rfl
theorem dL_isWide_190 : decode cL_isWide 190 = .ok (.lstore 10, 2) := sl_row ag_isWide_2 gl_isWide_2 (i := 40) (r := (62, .lstore 10, 2)) rfl
def ck_isWide_3 : ByteArray := .mk #[0x16, 0x04, 0x09, 0x94, 0x9e, 0x00, 0x16, 0x16, 0x08, 0x16, 0x08, 0x69, 0x16, 0x04, 0x69, 0x20, 0x16, 0x0a, 0x69, 0x94, 0x9b, 0x00, 0x06, 0xa7, 0x00, 0x0d, 0x16, 0x08, 0x16, 0x08, 0x69, 0x41, 0x16, 0x0a, 0x37, 0x04, 0x84, 0x06, 0x01, 0xa7, 0xff, 0x21, 0x1b, 0x9e, 0x00, 0x38, 0x2a, 0xb4, 0x00, 0x0a, 0x03, 0xb6, 0x00, 0x6c, 0x16, 0x04, 0x69, 0x20, 0x2a, 0xb4, 0x00, 0x0a, 0x04, 0xb6, 0x00, 0x6c, 0x69, 0x94]
set_option maxRecDepth 20000 in
theorem ag_isWide_3 : ∀ q, agB cL_isWide ck_isWide_3 (192 + q) q := agB_of 192 (by decide +kernel)
def tl_isWide_3 : List (Nat × Instr × Nat) := [(0, .lload 4, 2), (2, .lconst 0, 1), (3, .lcmp, 1), (4, .ifCond .le 22, 3), (7, .lload 8, 2), (9, .lload 8, 2), (11, .lmul, 1), (12, .lload 4, 2), (14, .lmul, 1), (15, .lload_n 2, 1), (16, .lload 10, 2), (18, .lmul, 1), (19, .lcmp, 1), (20, .ifCond .lt 6, 3), (23, .goto 13, 3), (26, .lload 8, 2), (28, .lload 8, 2), (30, .lmul, 1), (31, .lstore_n 2, 1), (32, .lload 10, 2), (34, .lstore 4, 2), (36, .iinc 6 1, 3), (39, .goto (-223), 3), (42, .iload_n 1, 1), (43, .ifCond .le 56, 3), (46, .aload_n 0, 1), (47, .getfield 10, 3), (50, .iconst 0, 1), (51, .invokevirtual 108, 3), (54, .lload 4, 2), (56, .lmul, 1), (57, .lload_n 2, 1), (58, .aload_n 0, 1), (59, .getfield 10, 3), (62, .iconst 1, 1), (63, .invokevirtual 108, 3)]
theorem gl_isWide_3 : tl_isWide_3.all (fun r => opB ck_isWide_3 r.1 && decide (decode ck_isWide_3 r.1 = .ok (r.2.1, r.2.2))) = true := by decide +kernel
theorem dL_isWide_192 : decode cL_isWide 192 = .ok (.lload 4, 2) := sl_row ag_isWide_3 gl_isWide_3 (i := 0) (r := (0, .lload 4, 2)) rfl
theorem dL_isWide_194 : decode cL_isWide 194 = .ok (.lconst 0, 1) := sl_row ag_isWide_3 gl_isWide_3 (i := 1) (r := (2, .lconst 0, 1)) rfl
theorem dL_isWide_195 : decode cL_isWide 195 = .ok (.lcmp, 1) := sl_row ag_isWide_3 gl_isWide_3 (i := 2) (r := (3, .lcmp, 1)) rfl
theorem dL_isWide_196 : decode cL_isWide 196 = .ok (.ifCond .le 22, 3) := sl_row ag_isWide_3 gl_isWide_3 (i := 3) (r := (4, .ifCond .le 22, 3)) rfl
theorem dL_isWide_199 : decode cL_isWide 199 = .ok (.lload 8, 2) := sl_row ag_isWide_3 gl_isWide_3 (i := 4) (r := (7, .lload 8, 2)) rfl
theorem dL_isWide_201 : decode cL_isWide 201 = .ok (.lload 8, 2) := sl_row ag_isWide_3 gl_isWide_3 (i := 5) (r := (9, .lload 8, 2)) rfl
theorem dL_isWide_203 : decode cL_isWide 203 = .ok (.lmul, 1) := sl_row ag_isWide_3 gl_isWide_3 (i := 6) (r := (11, .lmul, 1)) rfl
theorem dL_isWide_204 : decode cL_isWide 204 = .ok (.lload 4, 2) := sl_row ag_isWide_3 gl_isWide_3 (i := 7) (r := (12, .lload 4, 2)) rfl
theorem dL_isWide_206 : decode cL_isWide 206 = .ok (.lmul, 1) := sl_row ag_isWide_3 gl_isWide_3 (i := 8) (r := (14, .lmul, 1)) rfl
theorem dL_isWide_207 : decode cL_isWide 207 = .ok (.lload_n 2, 1) := sl_row ag_isWide_3 gl_isWide_3 (i := 9) (r := (15, .lload_n 2, 1)) rfl
theorem dL_isWide_208 : decode cL_isWide 208 = .ok (.lload 10, 2) := sl_row ag_isWide_3 gl_isWide_3 (i := 10) (r := (16, .lload 10, 2)) rfl
theorem dL_isWide_210 : decode cL_isWide 210 = .ok (.lmul, 1) := sl_row ag_isWide_3 gl_isWide_3 (i := 11) (r := (18, .lmul, 1)) rfl
theorem dL_isWide_211 : decode cL_isWide 211 = .ok (.lcmp, 1) := sl_row ag_isWide_3 gl_isWide_3 (i := 12) (r := (19, .lcmp, 1)) rfl
theorem dL_isWide_212 : decode cL_isWide 212 = .ok (.ifCond .lt 6, 3) := sl_row ag_isWide_3 gl_isWide_3 (i := 13) (r := (20, .ifCond .lt 6, 3)) rfl
theorem dL_isWide_215 : decode cL_isWide 215 = .ok (.goto 13, 3) := sl_row ag_isWide_3 gl_isWide_3 (i := 14) (r := (23, .goto 13, 3)) rfl
theorem dL_isWide_218 : decode cL_isWide 218 = .ok (.lload 8, 2) := sl_row ag_isWide_3 gl_isWide_3 (i := 15) (r := (26, .lload 8, 2)) rfl
theorem dL_isWide_220 : decode cL_isWide 220 = .ok (.lload 8, 2) := sl_row ag_isWide_3 gl_isWide_3 (i := 16) (r := (28, .lload 8, 2)) rfl
theorem dL_isWide_222 : decode cL_isWide 222 = .ok (.lmul, 1) := sl_row ag_isWide_3 gl_isWide_3 (i := 17) (r := (30, .lmul, 1)) rfl
theorem dL_isWide_223 : decode cL_isWide 223 = .ok (.lstore_n 2, 1) := sl_row ag_isWide_3 gl_isWide_3 (i := 18) (r := (31, .lstore_n 2, 1)) rfl
theorem dL_isWide_224 : decode cL_isWide 224 = .ok (.lload 10, 2) := sl_row ag_isWide_3 gl_isWide_3 (i := 19) (r := (32, .lload 10, 2)) rfl
theorem dL_isWide_226 : decode cL_isWide 226 = .ok (.lstore 4, 2) := sl_row ag_isWide_3 gl_isWide_3 (i := 20) (r := (34, .lstore 4, 2)) rfl
theorem dL_isWide_228 : decode cL_isWide 228 = .ok (.iinc 6 1, 3) := sl_row ag_isWide_3 gl_isWide_3 (i := 21) (r := (36, .iinc 6 1, 3)) rfl
theorem dL_isWide_231 : decode cL_isWide 231 = .ok (.goto (-223), 3) := sl_row ag_isWide_3 gl_isWide_3 (i := 22) (r := (39, .goto (-223), 3)) rfl
theorem dL_isWide_234 : decode cL_isWide 234 = .ok (.iload_n 1, 1) := sl_row ag_isWide_3 gl_isWide_3 (i := 23) (r := (42, .iload_n 1, 1)) rfl
theorem dL_isWide_235 : decode cL_isWide 235 = .ok (.ifCond .le 56, 3) := sl_row ag_isWide_3 gl_isWide_3 (i := 24) (r := (43, .ifCond .le 56, 3)) rfl
theorem dL_isWide_238 : decode cL_isWide 238 = .ok (.aload_n 0, 1) := sl_row ag_isWide_3 gl_isWide_3 (i := 25) (r := (46, .aload_n 0, 1)) rfl
theorem dL_isWide_239 : decode cL_isWide 239 = .ok (.getfield 10, 3) := sl_row ag_isWide_3 gl_isWide_3 (i := 26) (r := (47, .getfield 10, 3)) rfl
theorem dL_isWide_242 : decode cL_isWide 242 = .ok (.iconst 0, 1) := sl_row ag_isWide_3 gl_isWide_3 (i := 27) (r := (50, .iconst 0, 1)) rfl
theorem dL_isWide_243 : decode cL_isWide 243 = .ok (.invokevirtual 108, 3) := sl_row ag_isWide_3 gl_isWide_3 (i := 28) (r := (51, .invokevirtual 108, 3)) rfl
theorem dL_isWide_246 : decode cL_isWide 246 = .ok (.lload 4, 2) := sl_row ag_isWide_3 gl_isWide_3 (i := 29) (r := (54, .lload 4, 2)) rfl
theorem dL_isWide_248 : decode cL_isWide 248 = .ok (.lmul, 1) := sl_row ag_isWide_3 gl_isWide_3 (i := 30) (r := (56, .lmul, 1)) rfl
theorem dL_isWide_249 : decode cL_isWide 249 = .ok (.lload_n 2, 1) := sl_row ag_isWide_3 gl_isWide_3 (i := 31) (r := (57, .lload_n 2, 1)) rfl
theorem dL_isWide_250 : decode cL_isWide 250 = .ok (.aload_n 0, 1) := sl_row ag_isWide_3 gl_isWide_3 (i := 32) (r := (58, .aload_n 0, 1)) rfl
theorem dL_isWide_251 : decode cL_isWide 251 = .ok (.getfield 10, 3) := sl_row ag_isWide_3 gl_isWide_3 (i := 33) (r := (59, .getfield 10, 3)) rfl
theorem dL_isWide_254 : decode cL_isWide 254 = .ok (.iconst 1, 1) := sl_row ag_isWide_3 gl_isWide_3 (i := 34) (r := (62, .iconst 1, 1)) rfl
theorem dL_isWide_255 : decode cL_isWide 255 = .ok (.invokevirtual 108, 3) := sl_row ag_isWide_3 gl_isWide_3 (i := 35) (r := (63, .invokevirtual 108, 3)) rfl
def ck_isWide_4 : ByteArray := .mk #[0x00, 0x6c, 0x69, 0x94, 0x9a, 0x00, 0x1f, 0x2a, 0xb4, 0x00, 0x0a, 0xb6, 0x00, 0x70, 0x0b, 0x95, 0x9e, 0x00, 0x13, 0x2a, 0xb4, 0x00, 0x0a, 0xb6, 0x00, 0x70, 0x0c, 0x96, 0x9d, 0x00, 0x07, 0x04, 0xa7, 0x00, 0x04, 0x03, 0xac]
set_option maxRecDepth 20000 in
theorem ag_isWide_4 : ∀ q, agB cL_isWide ck_isWide_4 (256 + q) q := agB_of 256 (by decide +kernel)
def tl_isWide_4 : List (Nat × Instr × Nat) := [(2, .lmul, 1), (3, .lcmp, 1), (4, .ifCond .ne 31, 3), (7, .aload_n 0, 1), (8, .getfield 10, 3), (11, .invokevirtual 112, 3), (14, .fconst 0, 1), (15, .fcmp .l, 1), (16, .ifCond .le 19, 3), (19, .aload_n 0, 1), (20, .getfield 10, 3), (23, .invokevirtual 112, 3), (26, .fconst 1, 1), (27, .fcmp .g, 1), (28, .ifCond .gt 7, 3), (31, .iconst 1, 1), (32, .goto 4, 3), (35, .iconst 0, 1), (36, .ireturn, 1)]
theorem gl_isWide_4 : tl_isWide_4.all (fun r => opB ck_isWide_4 r.1 && decide (decode ck_isWide_4 r.1 = .ok (r.2.1, r.2.2))) = true := by decide +kernel
theorem dL_isWide_258 : decode cL_isWide 258 = .ok (.lmul, 1) := sl_row ag_isWide_4 gl_isWide_4 (i := 0) (r := (2, .lmul, 1)) rfl
theorem dL_isWide_259 : decode cL_isWide 259 = .ok (.lcmp, 1) := sl_row ag_isWide_4 gl_isWide_4 (i := 1) (r := (3, .lcmp, 1)) rfl
theorem dL_isWide_260 : decode cL_isWide 260 = .ok (.ifCond .ne 31, 3) := sl_row ag_isWide_4 gl_isWide_4 (i := 2) (r := (4, .ifCond .ne 31, 3)) rfl
theorem dL_isWide_263 : decode cL_isWide 263 = .ok (.aload_n 0, 1) := sl_row ag_isWide_4 gl_isWide_4 (i := 3) (r := (7, .aload_n 0, 1)) rfl
theorem dL_isWide_264 : decode cL_isWide 264 = .ok (.getfield 10, 3) := sl_row ag_isWide_4 gl_isWide_4 (i := 4) (r := (8, .getfield 10, 3)) rfl
theorem dL_isWide_267 : decode cL_isWide 267 = .ok (.invokevirtual 112, 3) := sl_row ag_isWide_4 gl_isWide_4 (i := 5) (r := (11, .invokevirtual 112, 3)) rfl
theorem dL_isWide_270 : decode cL_isWide 270 = .ok (.fconst 0, 1) := sl_row ag_isWide_4 gl_isWide_4 (i := 6) (r := (14, .fconst 0, 1)) rfl
theorem dL_isWide_271 : decode cL_isWide 271 = .ok (.fcmp .l, 1) := sl_row ag_isWide_4 gl_isWide_4 (i := 7) (r := (15, .fcmp .l, 1)) rfl
theorem dL_isWide_272 : decode cL_isWide 272 = .ok (.ifCond .le 19, 3) := sl_row ag_isWide_4 gl_isWide_4 (i := 8) (r := (16, .ifCond .le 19, 3)) rfl
theorem dL_isWide_275 : decode cL_isWide 275 = .ok (.aload_n 0, 1) := sl_row ag_isWide_4 gl_isWide_4 (i := 9) (r := (19, .aload_n 0, 1)) rfl
theorem dL_isWide_276 : decode cL_isWide 276 = .ok (.getfield 10, 3) := sl_row ag_isWide_4 gl_isWide_4 (i := 10) (r := (20, .getfield 10, 3)) rfl
theorem dL_isWide_279 : decode cL_isWide 279 = .ok (.invokevirtual 112, 3) := sl_row ag_isWide_4 gl_isWide_4 (i := 11) (r := (23, .invokevirtual 112, 3)) rfl
theorem dL_isWide_282 : decode cL_isWide 282 = .ok (.fconst 1, 1) := sl_row ag_isWide_4 gl_isWide_4 (i := 12) (r := (26, .fconst 1, 1)) rfl
theorem dL_isWide_283 : decode cL_isWide 283 = .ok (.fcmp .g, 1) := sl_row ag_isWide_4 gl_isWide_4 (i := 13) (r := (27, .fcmp .g, 1)) rfl
theorem dL_isWide_284 : decode cL_isWide 284 = .ok (.ifCond .gt 7, 3) := sl_row ag_isWide_4 gl_isWide_4 (i := 14) (r := (28, .ifCond .gt 7, 3)) rfl
theorem dL_isWide_287 : decode cL_isWide 287 = .ok (.iconst 1, 1) := sl_row ag_isWide_4 gl_isWide_4 (i := 15) (r := (31, .iconst 1, 1)) rfl
theorem dL_isWide_288 : decode cL_isWide 288 = .ok (.goto 4, 3) := sl_row ag_isWide_4 gl_isWide_4 (i := 16) (r := (32, .goto 4, 3)) rfl
theorem dL_isWide_291 : decode cL_isWide 291 = .ok (.iconst 0, 1) := sl_row ag_isWide_4 gl_isWide_4 (i := 17) (r := (35, .iconst 0, 1)) rfl
theorem dL_isWide_292 : decode cL_isWide 292 = .ok (.ireturn, 1) := sl_row ag_isWide_4 gl_isWide_4 (i := 18) (r := (36, .ireturn, 1)) rfl
def ck_areHulls_0 : ByteArray := .mk #[0x2a, 0xb4, 0x00, 0x10, 0x03, 0x2e, 0x3c, 0x2a, 0xb4, 0x00, 0x10, 0x2a, 0x2a, 0xb4, 0x00, 0x39, 0xb6, 0x00, 0x36, 0x2e, 0x3d, 0x2a, 0xb4, 0x00, 0x0a, 0x1b, 0xb6, 0x00, 0x74, 0x2a, 0xb4, 0x00, 0x0a, 0xb6, 0x00, 0x44, 0xa0, 0x00, 0x1b, 0x2a, 0xb6, 0x00, 0x77, 0x99, 0x00, 0x14, 0x2a, 0x1b, 0xb6, 0x00, 0x7b, 0x99, 0x00, 0x0c, 0x2a, 0x1b, 0x1b, 0xb6, 0x00, 0x7e, 0x9a, 0x00, 0x05, 0x03, 0xac, 0x2a, 0xb4, 0x00]
set_option maxRecDepth 20000 in
theorem ag_areHulls_0 : ∀ q, agB cL_areHulls ck_areHulls_0 (0 + q) q := agB_of 0 (by decide +kernel)
def tl_areHulls_0 : List (Nat × Instr × Nat) := [(0, .aload_n 0, 1), (1, .getfield 16, 3), (4, .iconst 0, 1), (5, .iaload, 1), (6, .istore_n 1, 1), (7, .aload_n 0, 1), (8, .getfield 16, 3), (11, .aload_n 0, 1), (12, .aload_n 0, 1), (13, .getfield 57, 3), (16, .invokevirtual 54, 3), (19, .iaload, 1), (20, .istore_n 2, 1), (21, .aload_n 0, 1), (22, .getfield 10, 3), (25, .iload_n 1, 1), (26, .invokevirtual 116, 3), (29, .aload_n 0, 1), (30, .getfield 10, 3), (33, .invokevirtual 68, 3), (36, .if_icmp .ne 27, 3), (39, .aload_n 0, 1), (40, .invokevirtual 119, 3), (43, .ifCond .eq 20, 3), (46, .aload_n 0, 1), (47, .iload_n 1, 1), (48, .invokevirtual 123, 3), (51, .ifCond .eq 12, 3), (54, .aload_n 0, 1), (55, .iload_n 1, 1), (56, .iload_n 1, 1), (57, .invokevirtual 126, 3), (60, .ifCond .ne 5, 3), (63, .iconst 0, 1)]
theorem gl_areHulls_0 : tl_areHulls_0.all (fun r => opB ck_areHulls_0 r.1 && decide (decode ck_areHulls_0 r.1 = .ok (r.2.1, r.2.2))) = true := by decide +kernel
theorem dL_areHulls_0 : decode cL_areHulls 0 = .ok (.aload_n 0, 1) := sl_row ag_areHulls_0 gl_areHulls_0 (i := 0) (r := (0, .aload_n 0, 1)) rfl
theorem dL_areHulls_1 : decode cL_areHulls 1 = .ok (.getfield 16, 3) := sl_row ag_areHulls_0 gl_areHulls_0 (i := 1) (r := (1, .getfield 16, 3)) rfl
theorem dL_areHulls_4 : decode cL_areHulls 4 = .ok (.iconst 0, 1) := sl_row ag_areHulls_0 gl_areHulls_0 (i := 2) (r := (4, .iconst 0, 1)) rfl
theorem dL_areHulls_5 : decode cL_areHulls 5 = .ok (.iaload, 1) := sl_row ag_areHulls_0 gl_areHulls_0 (i := 3) (r := (5, .iaload, 1)) rfl
theorem dL_areHulls_6 : decode cL_areHulls 6 = .ok (.istore_n 1, 1) := sl_row ag_areHulls_0 gl_areHulls_0 (i := 4) (r := (6, .istore_n 1, 1)) rfl
theorem dL_areHulls_7 : decode cL_areHulls 7 = .ok (.aload_n 0, 1) := sl_row ag_areHulls_0 gl_areHulls_0 (i := 5) (r := (7, .aload_n 0, 1)) rfl
theorem dL_areHulls_8 : decode cL_areHulls 8 = .ok (.getfield 16, 3) := sl_row ag_areHulls_0 gl_areHulls_0 (i := 6) (r := (8, .getfield 16, 3)) rfl
theorem dL_areHulls_11 : decode cL_areHulls 11 = .ok (.aload_n 0, 1) := sl_row ag_areHulls_0 gl_areHulls_0 (i := 7) (r := (11, .aload_n 0, 1)) rfl
theorem dL_areHulls_12 : decode cL_areHulls 12 = .ok (.aload_n 0, 1) := sl_row ag_areHulls_0 gl_areHulls_0 (i := 8) (r := (12, .aload_n 0, 1)) rfl
theorem dL_areHulls_13 : decode cL_areHulls 13 = .ok (.getfield 57, 3) := sl_row ag_areHulls_0 gl_areHulls_0 (i := 9) (r := (13, .getfield 57, 3)) rfl
theorem dL_areHulls_16 : decode cL_areHulls 16 = .ok (.invokevirtual 54, 3) := sl_row ag_areHulls_0 gl_areHulls_0 (i := 10) (r := (16, .invokevirtual 54, 3)) rfl
theorem dL_areHulls_19 : decode cL_areHulls 19 = .ok (.iaload, 1) := sl_row ag_areHulls_0 gl_areHulls_0 (i := 11) (r := (19, .iaload, 1)) rfl
theorem dL_areHulls_20 : decode cL_areHulls 20 = .ok (.istore_n 2, 1) := sl_row ag_areHulls_0 gl_areHulls_0 (i := 12) (r := (20, .istore_n 2, 1)) rfl
theorem dL_areHulls_21 : decode cL_areHulls 21 = .ok (.aload_n 0, 1) := sl_row ag_areHulls_0 gl_areHulls_0 (i := 13) (r := (21, .aload_n 0, 1)) rfl
theorem dL_areHulls_22 : decode cL_areHulls 22 = .ok (.getfield 10, 3) := sl_row ag_areHulls_0 gl_areHulls_0 (i := 14) (r := (22, .getfield 10, 3)) rfl
theorem dL_areHulls_25 : decode cL_areHulls 25 = .ok (.iload_n 1, 1) := sl_row ag_areHulls_0 gl_areHulls_0 (i := 15) (r := (25, .iload_n 1, 1)) rfl
theorem dL_areHulls_26 : decode cL_areHulls 26 = .ok (.invokevirtual 116, 3) := sl_row ag_areHulls_0 gl_areHulls_0 (i := 16) (r := (26, .invokevirtual 116, 3)) rfl
theorem dL_areHulls_29 : decode cL_areHulls 29 = .ok (.aload_n 0, 1) := sl_row ag_areHulls_0 gl_areHulls_0 (i := 17) (r := (29, .aload_n 0, 1)) rfl
theorem dL_areHulls_30 : decode cL_areHulls 30 = .ok (.getfield 10, 3) := sl_row ag_areHulls_0 gl_areHulls_0 (i := 18) (r := (30, .getfield 10, 3)) rfl
theorem dL_areHulls_33 : decode cL_areHulls 33 = .ok (.invokevirtual 68, 3) := sl_row ag_areHulls_0 gl_areHulls_0 (i := 19) (r := (33, .invokevirtual 68, 3)) rfl
theorem dL_areHulls_36 : decode cL_areHulls 36 = .ok (.if_icmp .ne 27, 3) := sl_row ag_areHulls_0 gl_areHulls_0 (i := 20) (r := (36, .if_icmp .ne 27, 3)) rfl
theorem dL_areHulls_39 : decode cL_areHulls 39 = .ok (.aload_n 0, 1) := sl_row ag_areHulls_0 gl_areHulls_0 (i := 21) (r := (39, .aload_n 0, 1)) rfl
theorem dL_areHulls_40 : decode cL_areHulls 40 = .ok (.invokevirtual 119, 3) := sl_row ag_areHulls_0 gl_areHulls_0 (i := 22) (r := (40, .invokevirtual 119, 3)) rfl
theorem dL_areHulls_43 : decode cL_areHulls 43 = .ok (.ifCond .eq 20, 3) := sl_row ag_areHulls_0 gl_areHulls_0 (i := 23) (r := (43, .ifCond .eq 20, 3)) rfl
theorem dL_areHulls_46 : decode cL_areHulls 46 = .ok (.aload_n 0, 1) := sl_row ag_areHulls_0 gl_areHulls_0 (i := 24) (r := (46, .aload_n 0, 1)) rfl
theorem dL_areHulls_47 : decode cL_areHulls 47 = .ok (.iload_n 1, 1) := sl_row ag_areHulls_0 gl_areHulls_0 (i := 25) (r := (47, .iload_n 1, 1)) rfl
theorem dL_areHulls_48 : decode cL_areHulls 48 = .ok (.invokevirtual 123, 3) := sl_row ag_areHulls_0 gl_areHulls_0 (i := 26) (r := (48, .invokevirtual 123, 3)) rfl
theorem dL_areHulls_51 : decode cL_areHulls 51 = .ok (.ifCond .eq 12, 3) := sl_row ag_areHulls_0 gl_areHulls_0 (i := 27) (r := (51, .ifCond .eq 12, 3)) rfl
theorem dL_areHulls_54 : decode cL_areHulls 54 = .ok (.aload_n 0, 1) := sl_row ag_areHulls_0 gl_areHulls_0 (i := 28) (r := (54, .aload_n 0, 1)) rfl
theorem dL_areHulls_55 : decode cL_areHulls 55 = .ok (.iload_n 1, 1) := sl_row ag_areHulls_0 gl_areHulls_0 (i := 29) (r := (55, .iload_n 1, 1)) rfl
theorem dL_areHulls_56 : decode cL_areHulls 56 = .ok (.iload_n 1, 1) := sl_row ag_areHulls_0 gl_areHulls_0 (i := 30) (r := (56, .iload_n 1, 1)) rfl
theorem dL_areHulls_57 : decode cL_areHulls 57 = .ok (.invokevirtual 126, 3) := sl_row ag_areHulls_0 gl_areHulls_0 (i := 31) (r := (57, .invokevirtual 126, 3)) rfl
theorem dL_areHulls_60 : decode cL_areHulls 60 = .ok (.ifCond .ne 5, 3) := sl_row ag_areHulls_0 gl_areHulls_0 (i := 32) (r := (60, .ifCond .ne 5, 3)) rfl
theorem dL_areHulls_63 : decode cL_areHulls 63 = .ok (.iconst 0, 1) := sl_row ag_areHulls_0 gl_areHulls_0 (i := 33) (r := (63, .iconst 0, 1)) rfl
def ck_areHulls_1 : ByteArray := .mk #[0xac, 0x2a, 0xb4, 0x00, 0x0a, 0xb6, 0x00, 0x58, 0x3e, 0x2a, 0xb4, 0x00, 0x0a, 0xb6, 0x00, 0x5e, 0x36, 0x04, 0x2a, 0xb4, 0x00, 0x0a, 0x1b, 0x1b, 0xb6, 0x00, 0x82, 0x2a, 0xb4, 0x00, 0x47, 0xa0, 0x00, 0x2b, 0x2a, 0xb4, 0x00, 0x0a, 0xb6, 0x00, 0x5e, 0x15, 0x04, 0xa0, 0x00, 0x1f, 0x2a, 0xb4, 0x00, 0x0a, 0x1b, 0x03, 0xb6, 0x00, 0x85, 0x2a, 0xb4, 0x00, 0x47, 0xa0, 0x00, 0x0f, 0x2a, 0xb4, 0x00, 0x0a, 0xb6, 0x00]
set_option maxRecDepth 20000 in
theorem ag_areHulls_1 : ∀ q, agB cL_areHulls ck_areHulls_1 (64 + q) q := agB_of 64 (by decide +kernel)
def tl_areHulls_1 : List (Nat × Instr × Nat) := [(0, .ireturn, 1), (1, .aload_n 0, 1), (2, .getfield 10, 3), (5, .invokevirtual 88, 3), (8, .istore_n 3, 1), (9, .aload_n 0, 1), (10, .getfield 10, 3), (13, .invokevirtual 94, 3), (16, .istore 4, 2), (18, .aload_n 0, 1), (19, .getfield 10, 3), (22, .iload_n 1, 1), (23, .iload_n 1, 1), (24, .invokevirtual 130, 3), (27, .aload_n 0, 1), (28, .getfield 71, 3), (31, .if_icmp .ne 43, 3), (34, .aload_n 0, 1), (35, .getfield 10, 3), (38, .invokevirtual 94, 3), (41, .iload 4, 2), (43, .if_icmp .ne 31, 3), (46, .aload_n 0, 1), (47, .getfield 10, 3), (50, .iload_n 1, 1), (51, .iconst 0, 1), (52, .invokevirtual 133, 3), (55, .aload_n 0, 1), (56, .getfield 71, 3), (59, .if_icmp .ne 15, 3), (62, .aload_n 0, 1), (63, .getfield 10, 3)]
theorem gl_areHulls_1 : tl_areHulls_1.all (fun r => opB ck_areHulls_1 r.1 && decide (decode ck_areHulls_1 r.1 = .ok (r.2.1, r.2.2))) = true := by decide +kernel
theorem dL_areHulls_64 : decode cL_areHulls 64 = .ok (.ireturn, 1) := sl_row ag_areHulls_1 gl_areHulls_1 (i := 0) (r := (0, .ireturn, 1)) rfl
theorem dL_areHulls_65 : decode cL_areHulls 65 = .ok (.aload_n 0, 1) := sl_row ag_areHulls_1 gl_areHulls_1 (i := 1) (r := (1, .aload_n 0, 1)) rfl
theorem dL_areHulls_66 : decode cL_areHulls 66 = .ok (.getfield 10, 3) := sl_row ag_areHulls_1 gl_areHulls_1 (i := 2) (r := (2, .getfield 10, 3)) rfl
theorem dL_areHulls_69 : decode cL_areHulls 69 = .ok (.invokevirtual 88, 3) := sl_row ag_areHulls_1 gl_areHulls_1 (i := 3) (r := (5, .invokevirtual 88, 3)) rfl
theorem dL_areHulls_72 : decode cL_areHulls 72 = .ok (.istore_n 3, 1) := sl_row ag_areHulls_1 gl_areHulls_1 (i := 4) (r := (8, .istore_n 3, 1)) rfl
theorem dL_areHulls_73 : decode cL_areHulls 73 = .ok (.aload_n 0, 1) := sl_row ag_areHulls_1 gl_areHulls_1 (i := 5) (r := (9, .aload_n 0, 1)) rfl
theorem dL_areHulls_74 : decode cL_areHulls 74 = .ok (.getfield 10, 3) := sl_row ag_areHulls_1 gl_areHulls_1 (i := 6) (r := (10, .getfield 10, 3)) rfl
theorem dL_areHulls_77 : decode cL_areHulls 77 = .ok (.invokevirtual 94, 3) := sl_row ag_areHulls_1 gl_areHulls_1 (i := 7) (r := (13, .invokevirtual 94, 3)) rfl
theorem dL_areHulls_80 : decode cL_areHulls 80 = .ok (.istore 4, 2) := sl_row ag_areHulls_1 gl_areHulls_1 (i := 8) (r := (16, .istore 4, 2)) rfl
theorem dL_areHulls_82 : decode cL_areHulls 82 = .ok (.aload_n 0, 1) := sl_row ag_areHulls_1 gl_areHulls_1 (i := 9) (r := (18, .aload_n 0, 1)) rfl
theorem dL_areHulls_83 : decode cL_areHulls 83 = .ok (.getfield 10, 3) := sl_row ag_areHulls_1 gl_areHulls_1 (i := 10) (r := (19, .getfield 10, 3)) rfl
theorem dL_areHulls_86 : decode cL_areHulls 86 = .ok (.iload_n 1, 1) := sl_row ag_areHulls_1 gl_areHulls_1 (i := 11) (r := (22, .iload_n 1, 1)) rfl
theorem dL_areHulls_87 : decode cL_areHulls 87 = .ok (.iload_n 1, 1) := sl_row ag_areHulls_1 gl_areHulls_1 (i := 12) (r := (23, .iload_n 1, 1)) rfl
theorem dL_areHulls_88 : decode cL_areHulls 88 = .ok (.invokevirtual 130, 3) := sl_row ag_areHulls_1 gl_areHulls_1 (i := 13) (r := (24, .invokevirtual 130, 3)) rfl
theorem dL_areHulls_91 : decode cL_areHulls 91 = .ok (.aload_n 0, 1) := sl_row ag_areHulls_1 gl_areHulls_1 (i := 14) (r := (27, .aload_n 0, 1)) rfl
theorem dL_areHulls_92 : decode cL_areHulls 92 = .ok (.getfield 71, 3) := sl_row ag_areHulls_1 gl_areHulls_1 (i := 15) (r := (28, .getfield 71, 3)) rfl
theorem dL_areHulls_95 : decode cL_areHulls 95 = .ok (.if_icmp .ne 43, 3) := sl_row ag_areHulls_1 gl_areHulls_1 (i := 16) (r := (31, .if_icmp .ne 43, 3)) rfl
theorem dL_areHulls_98 : decode cL_areHulls 98 = .ok (.aload_n 0, 1) := sl_row ag_areHulls_1 gl_areHulls_1 (i := 17) (r := (34, .aload_n 0, 1)) rfl
theorem dL_areHulls_99 : decode cL_areHulls 99 = .ok (.getfield 10, 3) := sl_row ag_areHulls_1 gl_areHulls_1 (i := 18) (r := (35, .getfield 10, 3)) rfl
theorem dL_areHulls_102 : decode cL_areHulls 102 = .ok (.invokevirtual 94, 3) := sl_row ag_areHulls_1 gl_areHulls_1 (i := 19) (r := (38, .invokevirtual 94, 3)) rfl
theorem dL_areHulls_105 : decode cL_areHulls 105 = .ok (.iload 4, 2) := sl_row ag_areHulls_1 gl_areHulls_1 (i := 20) (r := (41, .iload 4, 2)) rfl
theorem dL_areHulls_107 : decode cL_areHulls 107 = .ok (.if_icmp .ne 31, 3) := sl_row ag_areHulls_1 gl_areHulls_1 (i := 21) (r := (43, .if_icmp .ne 31, 3)) rfl
theorem dL_areHulls_110 : decode cL_areHulls 110 = .ok (.aload_n 0, 1) := sl_row ag_areHulls_1 gl_areHulls_1 (i := 22) (r := (46, .aload_n 0, 1)) rfl
theorem dL_areHulls_111 : decode cL_areHulls 111 = .ok (.getfield 10, 3) := sl_row ag_areHulls_1 gl_areHulls_1 (i := 23) (r := (47, .getfield 10, 3)) rfl
theorem dL_areHulls_114 : decode cL_areHulls 114 = .ok (.iload_n 1, 1) := sl_row ag_areHulls_1 gl_areHulls_1 (i := 24) (r := (50, .iload_n 1, 1)) rfl
theorem dL_areHulls_115 : decode cL_areHulls 115 = .ok (.iconst 0, 1) := sl_row ag_areHulls_1 gl_areHulls_1 (i := 25) (r := (51, .iconst 0, 1)) rfl
theorem dL_areHulls_116 : decode cL_areHulls 116 = .ok (.invokevirtual 133, 3) := sl_row ag_areHulls_1 gl_areHulls_1 (i := 26) (r := (52, .invokevirtual 133, 3)) rfl
theorem dL_areHulls_119 : decode cL_areHulls 119 = .ok (.aload_n 0, 1) := sl_row ag_areHulls_1 gl_areHulls_1 (i := 27) (r := (55, .aload_n 0, 1)) rfl
theorem dL_areHulls_120 : decode cL_areHulls 120 = .ok (.getfield 71, 3) := sl_row ag_areHulls_1 gl_areHulls_1 (i := 28) (r := (56, .getfield 71, 3)) rfl
theorem dL_areHulls_123 : decode cL_areHulls 123 = .ok (.if_icmp .ne 15, 3) := sl_row ag_areHulls_1 gl_areHulls_1 (i := 29) (r := (59, .if_icmp .ne 15, 3)) rfl
theorem dL_areHulls_126 : decode cL_areHulls 126 = .ok (.aload_n 0, 1) := sl_row ag_areHulls_1 gl_areHulls_1 (i := 30) (r := (62, .aload_n 0, 1)) rfl
theorem dL_areHulls_127 : decode cL_areHulls 127 = .ok (.getfield 10, 3) := sl_row ag_areHulls_1 gl_areHulls_1 (i := 31) (r := (63, .getfield 10, 3)) rfl
def ck_areHulls_2 : ByteArray := .mk #[0x00, 0x0a, 0xb6, 0x00, 0x5e, 0x15, 0x04, 0x9f, 0x00, 0x05, 0x03, 0xac, 0x2a, 0xb4, 0x00, 0x0a, 0x1b, 0x1b, 0xb6, 0x00, 0x88, 0x36, 0x05, 0x15, 0x05, 0x2a, 0xb4, 0x00, 0x47, 0xa0, 0x00, 0x17, 0x2a, 0xb4, 0x00, 0x0a, 0xb6, 0x00, 0x58, 0x07, 0x1d, 0x68, 0xa0, 0x00, 0x0a, 0x2a, 0xb6, 0x00, 0x77, 0x9a, 0x00, 0x05, 0x03, 0xac, 0x2a, 0xb4, 0x00, 0x0a, 0x1b, 0x1c, 0xb6, 0x00, 0x82, 0x2a, 0xb4, 0x00, 0x0a, 0xb6]
set_option maxRecDepth 20000 in
theorem ag_areHulls_2 : ∀ q, agB cL_areHulls ck_areHulls_2 (128 + q) q := agB_of 128 (by decide +kernel)
def tl_areHulls_2 : List (Nat × Instr × Nat) := [(2, .invokevirtual 94, 3), (5, .iload 4, 2), (7, .if_icmp .eq 5, 3), (10, .iconst 0, 1), (11, .ireturn, 1), (12, .aload_n 0, 1), (13, .getfield 10, 3), (16, .iload_n 1, 1), (17, .iload_n 1, 1), (18, .invokevirtual 136, 3), (21, .istore 5, 2), (23, .iload 5, 2), (25, .aload_n 0, 1), (26, .getfield 71, 3), (29, .if_icmp .ne 23, 3), (32, .aload_n 0, 1), (33, .getfield 10, 3), (36, .invokevirtual 88, 3), (39, .iconst 4, 1), (40, .iload_n 3, 1), (41, .imul, 1), (42, .if_icmp .ne 10, 3), (45, .aload_n 0, 1), (46, .invokevirtual 119, 3), (49, .ifCond .ne 5, 3), (52, .iconst 0, 1), (53, .ireturn, 1), (54, .aload_n 0, 1), (55, .getfield 10, 3), (58, .iload_n 1, 1), (59, .iload_n 2, 1), (60, .invokevirtual 130, 3), (63, .aload_n 0, 1)]
theorem gl_areHulls_2 : tl_areHulls_2.all (fun r => opB ck_areHulls_2 r.1 && decide (decode ck_areHulls_2 r.1 = .ok (r.2.1, r.2.2))) = true := by decide +kernel
theorem dL_areHulls_130 : decode cL_areHulls 130 = .ok (.invokevirtual 94, 3) := sl_row ag_areHulls_2 gl_areHulls_2 (i := 0) (r := (2, .invokevirtual 94, 3)) rfl
theorem dL_areHulls_133 : decode cL_areHulls 133 = .ok (.iload 4, 2) := sl_row ag_areHulls_2 gl_areHulls_2 (i := 1) (r := (5, .iload 4, 2)) rfl
theorem dL_areHulls_135 : decode cL_areHulls 135 = .ok (.if_icmp .eq 5, 3) := sl_row ag_areHulls_2 gl_areHulls_2 (i := 2) (r := (7, .if_icmp .eq 5, 3)) rfl
theorem dL_areHulls_138 : decode cL_areHulls 138 = .ok (.iconst 0, 1) := sl_row ag_areHulls_2 gl_areHulls_2 (i := 3) (r := (10, .iconst 0, 1)) rfl
theorem dL_areHulls_139 : decode cL_areHulls 139 = .ok (.ireturn, 1) := sl_row ag_areHulls_2 gl_areHulls_2 (i := 4) (r := (11, .ireturn, 1)) rfl
theorem dL_areHulls_140 : decode cL_areHulls 140 = .ok (.aload_n 0, 1) := sl_row ag_areHulls_2 gl_areHulls_2 (i := 5) (r := (12, .aload_n 0, 1)) rfl
theorem dL_areHulls_141 : decode cL_areHulls 141 = .ok (.getfield 10, 3) := sl_row ag_areHulls_2 gl_areHulls_2 (i := 6) (r := (13, .getfield 10, 3)) rfl
theorem dL_areHulls_144 : decode cL_areHulls 144 = .ok (.iload_n 1, 1) := sl_row ag_areHulls_2 gl_areHulls_2 (i := 7) (r := (16, .iload_n 1, 1)) rfl
theorem dL_areHulls_145 : decode cL_areHulls 145 = .ok (.iload_n 1, 1) := sl_row ag_areHulls_2 gl_areHulls_2 (i := 8) (r := (17, .iload_n 1, 1)) rfl
theorem dL_areHulls_146 : decode cL_areHulls 146 = .ok (.invokevirtual 136, 3) := sl_row ag_areHulls_2 gl_areHulls_2 (i := 9) (r := (18, .invokevirtual 136, 3)) rfl
theorem dL_areHulls_149 : decode cL_areHulls 149 = .ok (.istore 5, 2) := sl_row ag_areHulls_2 gl_areHulls_2 (i := 10) (r := (21, .istore 5, 2)) rfl
theorem dL_areHulls_151 : decode cL_areHulls 151 = .ok (.iload 5, 2) := sl_row ag_areHulls_2 gl_areHulls_2 (i := 11) (r := (23, .iload 5, 2)) rfl
theorem dL_areHulls_153 : decode cL_areHulls 153 = .ok (.aload_n 0, 1) := sl_row ag_areHulls_2 gl_areHulls_2 (i := 12) (r := (25, .aload_n 0, 1)) rfl
theorem dL_areHulls_154 : decode cL_areHulls 154 = .ok (.getfield 71, 3) := sl_row ag_areHulls_2 gl_areHulls_2 (i := 13) (r := (26, .getfield 71, 3)) rfl
theorem dL_areHulls_157 : decode cL_areHulls 157 = .ok (.if_icmp .ne 23, 3) := sl_row ag_areHulls_2 gl_areHulls_2 (i := 14) (r := (29, .if_icmp .ne 23, 3)) rfl
theorem dL_areHulls_160 : decode cL_areHulls 160 = .ok (.aload_n 0, 1) := sl_row ag_areHulls_2 gl_areHulls_2 (i := 15) (r := (32, .aload_n 0, 1)) rfl
theorem dL_areHulls_161 : decode cL_areHulls 161 = .ok (.getfield 10, 3) := sl_row ag_areHulls_2 gl_areHulls_2 (i := 16) (r := (33, .getfield 10, 3)) rfl
theorem dL_areHulls_164 : decode cL_areHulls 164 = .ok (.invokevirtual 88, 3) := sl_row ag_areHulls_2 gl_areHulls_2 (i := 17) (r := (36, .invokevirtual 88, 3)) rfl
theorem dL_areHulls_167 : decode cL_areHulls 167 = .ok (.iconst 4, 1) := sl_row ag_areHulls_2 gl_areHulls_2 (i := 18) (r := (39, .iconst 4, 1)) rfl
theorem dL_areHulls_168 : decode cL_areHulls 168 = .ok (.iload_n 3, 1) := sl_row ag_areHulls_2 gl_areHulls_2 (i := 19) (r := (40, .iload_n 3, 1)) rfl
theorem dL_areHulls_169 : decode cL_areHulls 169 = .ok (.imul, 1) := sl_row ag_areHulls_2 gl_areHulls_2 (i := 20) (r := (41, .imul, 1)) rfl
theorem dL_areHulls_170 : decode cL_areHulls 170 = .ok (.if_icmp .ne 10, 3) := sl_row ag_areHulls_2 gl_areHulls_2 (i := 21) (r := (42, .if_icmp .ne 10, 3)) rfl
theorem dL_areHulls_173 : decode cL_areHulls 173 = .ok (.aload_n 0, 1) := sl_row ag_areHulls_2 gl_areHulls_2 (i := 22) (r := (45, .aload_n 0, 1)) rfl
theorem dL_areHulls_174 : decode cL_areHulls 174 = .ok (.invokevirtual 119, 3) := sl_row ag_areHulls_2 gl_areHulls_2 (i := 23) (r := (46, .invokevirtual 119, 3)) rfl
theorem dL_areHulls_177 : decode cL_areHulls 177 = .ok (.ifCond .ne 5, 3) := sl_row ag_areHulls_2 gl_areHulls_2 (i := 24) (r := (49, .ifCond .ne 5, 3)) rfl
theorem dL_areHulls_180 : decode cL_areHulls 180 = .ok (.iconst 0, 1) := sl_row ag_areHulls_2 gl_areHulls_2 (i := 25) (r := (52, .iconst 0, 1)) rfl
theorem dL_areHulls_181 : decode cL_areHulls 181 = .ok (.ireturn, 1) := sl_row ag_areHulls_2 gl_areHulls_2 (i := 26) (r := (53, .ireturn, 1)) rfl
theorem dL_areHulls_182 : decode cL_areHulls 182 = .ok (.aload_n 0, 1) := sl_row ag_areHulls_2 gl_areHulls_2 (i := 27) (r := (54, .aload_n 0, 1)) rfl
theorem dL_areHulls_183 : decode cL_areHulls 183 = .ok (.getfield 10, 3) := sl_row ag_areHulls_2 gl_areHulls_2 (i := 28) (r := (55, .getfield 10, 3)) rfl
theorem dL_areHulls_186 : decode cL_areHulls 186 = .ok (.iload_n 1, 1) := sl_row ag_areHulls_2 gl_areHulls_2 (i := 29) (r := (58, .iload_n 1, 1)) rfl
theorem dL_areHulls_187 : decode cL_areHulls 187 = .ok (.iload_n 2, 1) := sl_row ag_areHulls_2 gl_areHulls_2 (i := 30) (r := (59, .iload_n 2, 1)) rfl
theorem dL_areHulls_188 : decode cL_areHulls 188 = .ok (.invokevirtual 130, 3) := sl_row ag_areHulls_2 gl_areHulls_2 (i := 31) (r := (60, .invokevirtual 130, 3)) rfl
theorem dL_areHulls_191 : decode cL_areHulls 191 = .ok (.aload_n 0, 1) := sl_row ag_areHulls_2 gl_areHulls_2 (i := 32) (r := (63, .aload_n 0, 1)) rfl
def ck_areHulls_3 : ByteArray := .mk #[0xb4, 0x00, 0x0a, 0xb6, 0x00, 0x44, 0xa0, 0x00, 0x23, 0x2a, 0xb6, 0x00, 0x77, 0x99, 0x00, 0x1c, 0x2a, 0x1b, 0xb6, 0x00, 0x7b, 0x99, 0x00, 0x14, 0x2a, 0x1c, 0xb6, 0x00, 0x7b, 0x99, 0x00, 0x0c, 0x2a, 0x1b, 0x1c, 0xb6, 0x00, 0x7e, 0x9a, 0x00, 0x05, 0x03, 0xac, 0x2a, 0xb4, 0x00, 0x0a, 0x1b, 0x1c, 0xb6, 0x00, 0x88, 0x04, 0xa1, 0x00, 0x0a, 0x2a, 0xb6, 0x00, 0x77, 0x9a, 0x00, 0x05, 0x03, 0xac, 0x03, 0x36, 0x06]
set_option maxRecDepth 20000 in
theorem ag_areHulls_3 : ∀ q, agB cL_areHulls ck_areHulls_3 (192 + q) q := agB_of 192 (by decide +kernel)
def tl_areHulls_3 : List (Nat × Instr × Nat) := [(0, .getfield 10, 3), (3, .invokevirtual 68, 3), (6, .if_icmp .ne 35, 3), (9, .aload_n 0, 1), (10, .invokevirtual 119, 3), (13, .ifCond .eq 28, 3), (16, .aload_n 0, 1), (17, .iload_n 1, 1), (18, .invokevirtual 123, 3), (21, .ifCond .eq 20, 3), (24, .aload_n 0, 1), (25, .iload_n 2, 1), (26, .invokevirtual 123, 3), (29, .ifCond .eq 12, 3), (32, .aload_n 0, 1), (33, .iload_n 1, 1), (34, .iload_n 2, 1), (35, .invokevirtual 126, 3), (38, .ifCond .ne 5, 3), (41, .iconst 0, 1), (42, .ireturn, 1), (43, .aload_n 0, 1), (44, .getfield 10, 3), (47, .iload_n 1, 1), (48, .iload_n 2, 1), (49, .invokevirtual 136, 3), (52, .iconst 1, 1), (53, .if_icmp .lt 10, 3), (56, .aload_n 0, 1), (57, .invokevirtual 119, 3), (60, .ifCond .ne 5, 3), (63, .iconst 0, 1)]
theorem gl_areHulls_3 : tl_areHulls_3.all (fun r => opB ck_areHulls_3 r.1 && decide (decode ck_areHulls_3 r.1 = .ok (r.2.1, r.2.2))) = true := by decide +kernel
theorem dL_areHulls_192 : decode cL_areHulls 192 = .ok (.getfield 10, 3) := sl_row ag_areHulls_3 gl_areHulls_3 (i := 0) (r := (0, .getfield 10, 3)) rfl
theorem dL_areHulls_195 : decode cL_areHulls 195 = .ok (.invokevirtual 68, 3) := sl_row ag_areHulls_3 gl_areHulls_3 (i := 1) (r := (3, .invokevirtual 68, 3)) rfl
theorem dL_areHulls_198 : decode cL_areHulls 198 = .ok (.if_icmp .ne 35, 3) := sl_row ag_areHulls_3 gl_areHulls_3 (i := 2) (r := (6, .if_icmp .ne 35, 3)) rfl
theorem dL_areHulls_201 : decode cL_areHulls 201 = .ok (.aload_n 0, 1) := sl_row ag_areHulls_3 gl_areHulls_3 (i := 3) (r := (9, .aload_n 0, 1)) rfl
theorem dL_areHulls_202 : decode cL_areHulls 202 = .ok (.invokevirtual 119, 3) := sl_row ag_areHulls_3 gl_areHulls_3 (i := 4) (r := (10, .invokevirtual 119, 3)) rfl
theorem dL_areHulls_205 : decode cL_areHulls 205 = .ok (.ifCond .eq 28, 3) := sl_row ag_areHulls_3 gl_areHulls_3 (i := 5) (r := (13, .ifCond .eq 28, 3)) rfl
theorem dL_areHulls_208 : decode cL_areHulls 208 = .ok (.aload_n 0, 1) := sl_row ag_areHulls_3 gl_areHulls_3 (i := 6) (r := (16, .aload_n 0, 1)) rfl
theorem dL_areHulls_209 : decode cL_areHulls 209 = .ok (.iload_n 1, 1) := sl_row ag_areHulls_3 gl_areHulls_3 (i := 7) (r := (17, .iload_n 1, 1)) rfl
theorem dL_areHulls_210 : decode cL_areHulls 210 = .ok (.invokevirtual 123, 3) := sl_row ag_areHulls_3 gl_areHulls_3 (i := 8) (r := (18, .invokevirtual 123, 3)) rfl
theorem dL_areHulls_213 : decode cL_areHulls 213 = .ok (.ifCond .eq 20, 3) := sl_row ag_areHulls_3 gl_areHulls_3 (i := 9) (r := (21, .ifCond .eq 20, 3)) rfl
theorem dL_areHulls_216 : decode cL_areHulls 216 = .ok (.aload_n 0, 1) := sl_row ag_areHulls_3 gl_areHulls_3 (i := 10) (r := (24, .aload_n 0, 1)) rfl
theorem dL_areHulls_217 : decode cL_areHulls 217 = .ok (.iload_n 2, 1) := sl_row ag_areHulls_3 gl_areHulls_3 (i := 11) (r := (25, .iload_n 2, 1)) rfl
theorem dL_areHulls_218 : decode cL_areHulls 218 = .ok (.invokevirtual 123, 3) := sl_row ag_areHulls_3 gl_areHulls_3 (i := 12) (r := (26, .invokevirtual 123, 3)) rfl
theorem dL_areHulls_221 : decode cL_areHulls 221 = .ok (.ifCond .eq 12, 3) := sl_row ag_areHulls_3 gl_areHulls_3 (i := 13) (r := (29, .ifCond .eq 12, 3)) rfl
theorem dL_areHulls_224 : decode cL_areHulls 224 = .ok (.aload_n 0, 1) := sl_row ag_areHulls_3 gl_areHulls_3 (i := 14) (r := (32, .aload_n 0, 1)) rfl
theorem dL_areHulls_225 : decode cL_areHulls 225 = .ok (.iload_n 1, 1) := sl_row ag_areHulls_3 gl_areHulls_3 (i := 15) (r := (33, .iload_n 1, 1)) rfl
theorem dL_areHulls_226 : decode cL_areHulls 226 = .ok (.iload_n 2, 1) := sl_row ag_areHulls_3 gl_areHulls_3 (i := 16) (r := (34, .iload_n 2, 1)) rfl
theorem dL_areHulls_227 : decode cL_areHulls 227 = .ok (.invokevirtual 126, 3) := sl_row ag_areHulls_3 gl_areHulls_3 (i := 17) (r := (35, .invokevirtual 126, 3)) rfl
theorem dL_areHulls_230 : decode cL_areHulls 230 = .ok (.ifCond .ne 5, 3) := sl_row ag_areHulls_3 gl_areHulls_3 (i := 18) (r := (38, .ifCond .ne 5, 3)) rfl
theorem dL_areHulls_233 : decode cL_areHulls 233 = .ok (.iconst 0, 1) := sl_row ag_areHulls_3 gl_areHulls_3 (i := 19) (r := (41, .iconst 0, 1)) rfl
theorem dL_areHulls_234 : decode cL_areHulls 234 = .ok (.ireturn, 1) := sl_row ag_areHulls_3 gl_areHulls_3 (i := 20) (r := (42, .ireturn, 1)) rfl
theorem dL_areHulls_235 : decode cL_areHulls 235 = .ok (.aload_n 0, 1) := sl_row ag_areHulls_3 gl_areHulls_3 (i := 21) (r := (43, .aload_n 0, 1)) rfl
theorem dL_areHulls_236 : decode cL_areHulls 236 = .ok (.getfield 10, 3) := sl_row ag_areHulls_3 gl_areHulls_3 (i := 22) (r := (44, .getfield 10, 3)) rfl
theorem dL_areHulls_239 : decode cL_areHulls 239 = .ok (.iload_n 1, 1) := sl_row ag_areHulls_3 gl_areHulls_3 (i := 23) (r := (47, .iload_n 1, 1)) rfl
theorem dL_areHulls_240 : decode cL_areHulls 240 = .ok (.iload_n 2, 1) := sl_row ag_areHulls_3 gl_areHulls_3 (i := 24) (r := (48, .iload_n 2, 1)) rfl
theorem dL_areHulls_241 : decode cL_areHulls 241 = .ok (.invokevirtual 136, 3) := sl_row ag_areHulls_3 gl_areHulls_3 (i := 25) (r := (49, .invokevirtual 136, 3)) rfl
theorem dL_areHulls_244 : decode cL_areHulls 244 = .ok (.iconst 1, 1) := sl_row ag_areHulls_3 gl_areHulls_3 (i := 26) (r := (52, .iconst 1, 1)) rfl
theorem dL_areHulls_245 : decode cL_areHulls 245 = .ok (.if_icmp .lt 10, 3) := sl_row ag_areHulls_3 gl_areHulls_3 (i := 27) (r := (53, .if_icmp .lt 10, 3)) rfl
theorem dL_areHulls_248 : decode cL_areHulls 248 = .ok (.aload_n 0, 1) := sl_row ag_areHulls_3 gl_areHulls_3 (i := 28) (r := (56, .aload_n 0, 1)) rfl
theorem dL_areHulls_249 : decode cL_areHulls 249 = .ok (.invokevirtual 119, 3) := sl_row ag_areHulls_3 gl_areHulls_3 (i := 29) (r := (57, .invokevirtual 119, 3)) rfl
theorem dL_areHulls_252 : decode cL_areHulls 252 = .ok (.ifCond .ne 5, 3) := sl_row ag_areHulls_3 gl_areHulls_3 (i := 30) (r := (60, .ifCond .ne 5, 3)) rfl
theorem dL_areHulls_255 : decode cL_areHulls 255 = .ok (.iconst 0, 1) := sl_row ag_areHulls_3 gl_areHulls_3 (i := 31) (r := (63, .iconst 0, 1)) rfl
def ck_areHulls_4 : ByteArray := .mk #[0xac, 0x03, 0x36, 0x06, 0x15, 0x06, 0x2a, 0xb4, 0x00, 0x39, 0xa2, 0x00, 0x5b, 0x03, 0x36, 0x07, 0x15, 0x07, 0x2a, 0xb4, 0x00, 0x39, 0xa2, 0x00, 0x49, 0x2a, 0xb4, 0x00, 0x10, 0x15, 0x06, 0x2e, 0x1b, 0xa0, 0x00, 0x38, 0x2a, 0xb4, 0x00, 0x10, 0x15, 0x07, 0x2e, 0x1c, 0xa0, 0x00, 0x2d, 0x2a, 0xb4, 0x00, 0x0a, 0x2a, 0xb4, 0x00, 0x14, 0x15, 0x06, 0x2e, 0x2a, 0xb4, 0x00, 0x14, 0x15, 0x07, 0x2e, 0x60, 0x2a, 0xb4]
set_option maxRecDepth 20000 in
theorem ag_areHulls_4 : ∀ q, agB cL_areHulls ck_areHulls_4 (256 + q) q := agB_of 256 (by decide +kernel)
def tl_areHulls_4 : List (Nat × Instr × Nat) := [(0, .ireturn, 1), (1, .iconst 0, 1), (2, .istore 6, 2), (4, .iload 6, 2), (6, .aload_n 0, 1), (7, .getfield 57, 3), (10, .if_icmp .ge 91, 3), (13, .iconst 0, 1), (14, .istore 7, 2), (16, .iload 7, 2), (18, .aload_n 0, 1), (19, .getfield 57, 3), (22, .if_icmp .ge 73, 3), (25, .aload_n 0, 1), (26, .getfield 16, 3), (29, .iload 6, 2), (31, .iaload, 1), (32, .iload_n 1, 1), (33, .if_icmp .ne 56, 3), (36, .aload_n 0, 1), (37, .getfield 16, 3), (40, .iload 7, 2), (42, .iaload, 1), (43, .iload_n 2, 1), (44, .if_icmp .ne 45, 3), (47, .aload_n 0, 1), (48, .getfield 10, 3), (51, .aload_n 0, 1), (52, .getfield 20, 3), (55, .iload 6, 2), (57, .iaload, 1), (58, .aload_n 0, 1), (59, .getfield 20, 3), (62, .iload 7, 2)]
theorem gl_areHulls_4 : tl_areHulls_4.all (fun r => opB ck_areHulls_4 r.1 && decide (decode ck_areHulls_4 r.1 = .ok (r.2.1, r.2.2))) = true := by decide +kernel
theorem dL_areHulls_256 : decode cL_areHulls 256 = .ok (.ireturn, 1) := sl_row ag_areHulls_4 gl_areHulls_4 (i := 0) (r := (0, .ireturn, 1)) rfl
theorem dL_areHulls_257 : decode cL_areHulls 257 = .ok (.iconst 0, 1) := sl_row ag_areHulls_4 gl_areHulls_4 (i := 1) (r := (1, .iconst 0, 1)) rfl
theorem dL_areHulls_258 : decode cL_areHulls 258 = .ok (.istore 6, 2) := sl_row ag_areHulls_4 gl_areHulls_4 (i := 2) (r := (2, .istore 6, 2)) rfl
theorem dL_areHulls_260 : decode cL_areHulls 260 = .ok (.iload 6, 2) := sl_row ag_areHulls_4 gl_areHulls_4 (i := 3) (r := (4, .iload 6, 2)) rfl
theorem dL_areHulls_262 : decode cL_areHulls 262 = .ok (.aload_n 0, 1) := sl_row ag_areHulls_4 gl_areHulls_4 (i := 4) (r := (6, .aload_n 0, 1)) rfl
theorem dL_areHulls_263 : decode cL_areHulls 263 = .ok (.getfield 57, 3) := sl_row ag_areHulls_4 gl_areHulls_4 (i := 5) (r := (7, .getfield 57, 3)) rfl
theorem dL_areHulls_266 : decode cL_areHulls 266 = .ok (.if_icmp .ge 91, 3) := sl_row ag_areHulls_4 gl_areHulls_4 (i := 6) (r := (10, .if_icmp .ge 91, 3)) rfl
theorem dL_areHulls_269 : decode cL_areHulls 269 = .ok (.iconst 0, 1) := sl_row ag_areHulls_4 gl_areHulls_4 (i := 7) (r := (13, .iconst 0, 1)) rfl
theorem dL_areHulls_270 : decode cL_areHulls 270 = .ok (.istore 7, 2) := sl_row ag_areHulls_4 gl_areHulls_4 (i := 8) (r := (14, .istore 7, 2)) rfl
theorem dL_areHulls_272 : decode cL_areHulls 272 = .ok (.iload 7, 2) := sl_row ag_areHulls_4 gl_areHulls_4 (i := 9) (r := (16, .iload 7, 2)) rfl
theorem dL_areHulls_274 : decode cL_areHulls 274 = .ok (.aload_n 0, 1) := sl_row ag_areHulls_4 gl_areHulls_4 (i := 10) (r := (18, .aload_n 0, 1)) rfl
theorem dL_areHulls_275 : decode cL_areHulls 275 = .ok (.getfield 57, 3) := sl_row ag_areHulls_4 gl_areHulls_4 (i := 11) (r := (19, .getfield 57, 3)) rfl
theorem dL_areHulls_278 : decode cL_areHulls 278 = .ok (.if_icmp .ge 73, 3) := sl_row ag_areHulls_4 gl_areHulls_4 (i := 12) (r := (22, .if_icmp .ge 73, 3)) rfl
theorem dL_areHulls_281 : decode cL_areHulls 281 = .ok (.aload_n 0, 1) := sl_row ag_areHulls_4 gl_areHulls_4 (i := 13) (r := (25, .aload_n 0, 1)) rfl
theorem dL_areHulls_282 : decode cL_areHulls 282 = .ok (.getfield 16, 3) := sl_row ag_areHulls_4 gl_areHulls_4 (i := 14) (r := (26, .getfield 16, 3)) rfl
theorem dL_areHulls_285 : decode cL_areHulls 285 = .ok (.iload 6, 2) := sl_row ag_areHulls_4 gl_areHulls_4 (i := 15) (r := (29, .iload 6, 2)) rfl
theorem dL_areHulls_287 : decode cL_areHulls 287 = .ok (.iaload, 1) := sl_row ag_areHulls_4 gl_areHulls_4 (i := 16) (r := (31, .iaload, 1)) rfl
theorem dL_areHulls_288 : decode cL_areHulls 288 = .ok (.iload_n 1, 1) := sl_row ag_areHulls_4 gl_areHulls_4 (i := 17) (r := (32, .iload_n 1, 1)) rfl
theorem dL_areHulls_289 : decode cL_areHulls 289 = .ok (.if_icmp .ne 56, 3) := sl_row ag_areHulls_4 gl_areHulls_4 (i := 18) (r := (33, .if_icmp .ne 56, 3)) rfl
theorem dL_areHulls_292 : decode cL_areHulls 292 = .ok (.aload_n 0, 1) := sl_row ag_areHulls_4 gl_areHulls_4 (i := 19) (r := (36, .aload_n 0, 1)) rfl
theorem dL_areHulls_293 : decode cL_areHulls 293 = .ok (.getfield 16, 3) := sl_row ag_areHulls_4 gl_areHulls_4 (i := 20) (r := (37, .getfield 16, 3)) rfl
theorem dL_areHulls_296 : decode cL_areHulls 296 = .ok (.iload 7, 2) := sl_row ag_areHulls_4 gl_areHulls_4 (i := 21) (r := (40, .iload 7, 2)) rfl
theorem dL_areHulls_298 : decode cL_areHulls 298 = .ok (.iaload, 1) := sl_row ag_areHulls_4 gl_areHulls_4 (i := 22) (r := (42, .iaload, 1)) rfl
theorem dL_areHulls_299 : decode cL_areHulls 299 = .ok (.iload_n 2, 1) := sl_row ag_areHulls_4 gl_areHulls_4 (i := 23) (r := (43, .iload_n 2, 1)) rfl
theorem dL_areHulls_300 : decode cL_areHulls 300 = .ok (.if_icmp .ne 45, 3) := sl_row ag_areHulls_4 gl_areHulls_4 (i := 24) (r := (44, .if_icmp .ne 45, 3)) rfl
theorem dL_areHulls_303 : decode cL_areHulls 303 = .ok (.aload_n 0, 1) := sl_row ag_areHulls_4 gl_areHulls_4 (i := 25) (r := (47, .aload_n 0, 1)) rfl
theorem dL_areHulls_304 : decode cL_areHulls 304 = .ok (.getfield 10, 3) := sl_row ag_areHulls_4 gl_areHulls_4 (i := 26) (r := (48, .getfield 10, 3)) rfl
theorem dL_areHulls_307 : decode cL_areHulls 307 = .ok (.aload_n 0, 1) := sl_row ag_areHulls_4 gl_areHulls_4 (i := 27) (r := (51, .aload_n 0, 1)) rfl
theorem dL_areHulls_308 : decode cL_areHulls 308 = .ok (.getfield 20, 3) := sl_row ag_areHulls_4 gl_areHulls_4 (i := 28) (r := (52, .getfield 20, 3)) rfl
theorem dL_areHulls_311 : decode cL_areHulls 311 = .ok (.iload 6, 2) := sl_row ag_areHulls_4 gl_areHulls_4 (i := 29) (r := (55, .iload 6, 2)) rfl
theorem dL_areHulls_313 : decode cL_areHulls 313 = .ok (.iaload, 1) := sl_row ag_areHulls_4 gl_areHulls_4 (i := 30) (r := (57, .iaload, 1)) rfl
theorem dL_areHulls_314 : decode cL_areHulls 314 = .ok (.aload_n 0, 1) := sl_row ag_areHulls_4 gl_areHulls_4 (i := 31) (r := (58, .aload_n 0, 1)) rfl
theorem dL_areHulls_315 : decode cL_areHulls 315 = .ok (.getfield 20, 3) := sl_row ag_areHulls_4 gl_areHulls_4 (i := 32) (r := (59, .getfield 20, 3)) rfl
theorem dL_areHulls_318 : decode cL_areHulls 318 = .ok (.iload 7, 2) := sl_row ag_areHulls_4 gl_areHulls_4 (i := 33) (r := (62, .iload 7, 2)) rfl
def ck_areHulls_5 : ByteArray := .mk #[0x2e, 0x60, 0x2a, 0xb4, 0x00, 0x17, 0x15, 0x06, 0x2e, 0x2a, 0xb4, 0x00, 0x17, 0x15, 0x07, 0x2e, 0x60, 0xb6, 0x00, 0x55, 0x9c, 0x00, 0x05, 0x03, 0xac, 0x84, 0x07, 0x01, 0xa7, 0xff, 0xb4, 0x84, 0x06, 0x01, 0xa7, 0xff, 0xa2, 0x2a, 0xb4, 0x00, 0x0a, 0xb6, 0x00, 0x5e, 0x36, 0x06, 0x2a, 0xb4, 0x00, 0x0a, 0x1c, 0x1b, 0xb6, 0x00, 0x88, 0x2a, 0xb4, 0x00, 0x47, 0xa0, 0x00, 0x13, 0x2a, 0xb4, 0x00, 0x0a, 0xb6, 0x00]
set_option maxRecDepth 20000 in
theorem ag_areHulls_5 : ∀ q, agB cL_areHulls ck_areHulls_5 (320 + q) q := agB_of 320 (by decide +kernel)
def tl_areHulls_5 : List (Nat × Instr × Nat) := [(0, .iaload, 1), (1, .iadd, 1), (2, .aload_n 0, 1), (3, .getfield 23, 3), (6, .iload 6, 2), (8, .iaload, 1), (9, .aload_n 0, 1), (10, .getfield 23, 3), (13, .iload 7, 2), (15, .iaload, 1), (16, .iadd, 1), (17, .invokevirtual 85, 3), (20, .ifCond .ge 5, 3), (23, .iconst 0, 1), (24, .ireturn, 1), (25, .iinc 7 1, 3), (28, .goto (-76), 3), (31, .iinc 6 1, 3), (34, .goto (-94), 3), (37, .aload_n 0, 1), (38, .getfield 10, 3), (41, .invokevirtual 94, 3), (44, .istore 6, 2), (46, .aload_n 0, 1), (47, .getfield 10, 3), (50, .iload_n 2, 1), (51, .iload_n 1, 1), (52, .invokevirtual 136, 3), (55, .aload_n 0, 1), (56, .getfield 71, 3), (59, .if_icmp .ne 19, 3), (62, .aload_n 0, 1), (63, .getfield 10, 3)]
theorem gl_areHulls_5 : tl_areHulls_5.all (fun r => opB ck_areHulls_5 r.1 && decide (decode ck_areHulls_5 r.1 = .ok (r.2.1, r.2.2))) = true := by decide +kernel
theorem dL_areHulls_320 : decode cL_areHulls 320 = .ok (.iaload, 1) := sl_row ag_areHulls_5 gl_areHulls_5 (i := 0) (r := (0, .iaload, 1)) rfl
theorem dL_areHulls_321 : decode cL_areHulls 321 = .ok (.iadd, 1) := sl_row ag_areHulls_5 gl_areHulls_5 (i := 1) (r := (1, .iadd, 1)) rfl
theorem dL_areHulls_322 : decode cL_areHulls 322 = .ok (.aload_n 0, 1) := sl_row ag_areHulls_5 gl_areHulls_5 (i := 2) (r := (2, .aload_n 0, 1)) rfl
theorem dL_areHulls_323 : decode cL_areHulls 323 = .ok (.getfield 23, 3) := sl_row ag_areHulls_5 gl_areHulls_5 (i := 3) (r := (3, .getfield 23, 3)) rfl
theorem dL_areHulls_326 : decode cL_areHulls 326 = .ok (.iload 6, 2) := sl_row ag_areHulls_5 gl_areHulls_5 (i := 4) (r := (6, .iload 6, 2)) rfl
theorem dL_areHulls_328 : decode cL_areHulls 328 = .ok (.iaload, 1) := sl_row ag_areHulls_5 gl_areHulls_5 (i := 5) (r := (8, .iaload, 1)) rfl
theorem dL_areHulls_329 : decode cL_areHulls 329 = .ok (.aload_n 0, 1) := sl_row ag_areHulls_5 gl_areHulls_5 (i := 6) (r := (9, .aload_n 0, 1)) rfl
theorem dL_areHulls_330 : decode cL_areHulls 330 = .ok (.getfield 23, 3) := sl_row ag_areHulls_5 gl_areHulls_5 (i := 7) (r := (10, .getfield 23, 3)) rfl
theorem dL_areHulls_333 : decode cL_areHulls 333 = .ok (.iload 7, 2) := sl_row ag_areHulls_5 gl_areHulls_5 (i := 8) (r := (13, .iload 7, 2)) rfl
theorem dL_areHulls_335 : decode cL_areHulls 335 = .ok (.iaload, 1) := sl_row ag_areHulls_5 gl_areHulls_5 (i := 9) (r := (15, .iaload, 1)) rfl
theorem dL_areHulls_336 : decode cL_areHulls 336 = .ok (.iadd, 1) := sl_row ag_areHulls_5 gl_areHulls_5 (i := 10) (r := (16, .iadd, 1)) rfl
theorem dL_areHulls_337 : decode cL_areHulls 337 = .ok (.invokevirtual 85, 3) := sl_row ag_areHulls_5 gl_areHulls_5 (i := 11) (r := (17, .invokevirtual 85, 3)) rfl
theorem dL_areHulls_340 : decode cL_areHulls 340 = .ok (.ifCond .ge 5, 3) := sl_row ag_areHulls_5 gl_areHulls_5 (i := 12) (r := (20, .ifCond .ge 5, 3)) rfl
theorem dL_areHulls_343 : decode cL_areHulls 343 = .ok (.iconst 0, 1) := sl_row ag_areHulls_5 gl_areHulls_5 (i := 13) (r := (23, .iconst 0, 1)) rfl
theorem dL_areHulls_344 : decode cL_areHulls 344 = .ok (.ireturn, 1) := sl_row ag_areHulls_5 gl_areHulls_5 (i := 14) (r := (24, .ireturn, 1)) rfl
theorem dL_areHulls_345 : decode cL_areHulls 345 = .ok (.iinc 7 1, 3) := sl_row ag_areHulls_5 gl_areHulls_5 (i := 15) (r := (25, .iinc 7 1, 3)) rfl
theorem dL_areHulls_348 : decode cL_areHulls 348 = .ok (.goto (-76), 3) := sl_row ag_areHulls_5 gl_areHulls_5 (i := 16) (r := (28, .goto (-76), 3)) rfl
theorem dL_areHulls_351 : decode cL_areHulls 351 = .ok (.iinc 6 1, 3) := sl_row ag_areHulls_5 gl_areHulls_5 (i := 17) (r := (31, .iinc 6 1, 3)) rfl
theorem dL_areHulls_354 : decode cL_areHulls 354 = .ok (.goto (-94), 3) := sl_row ag_areHulls_5 gl_areHulls_5 (i := 18) (r := (34, .goto (-94), 3)) rfl
theorem dL_areHulls_357 : decode cL_areHulls 357 = .ok (.aload_n 0, 1) := sl_row ag_areHulls_5 gl_areHulls_5 (i := 19) (r := (37, .aload_n 0, 1)) rfl
theorem dL_areHulls_358 : decode cL_areHulls 358 = .ok (.getfield 10, 3) := sl_row ag_areHulls_5 gl_areHulls_5 (i := 20) (r := (38, .getfield 10, 3)) rfl
theorem dL_areHulls_361 : decode cL_areHulls 361 = .ok (.invokevirtual 94, 3) := sl_row ag_areHulls_5 gl_areHulls_5 (i := 21) (r := (41, .invokevirtual 94, 3)) rfl
theorem dL_areHulls_364 : decode cL_areHulls 364 = .ok (.istore 6, 2) := sl_row ag_areHulls_5 gl_areHulls_5 (i := 22) (r := (44, .istore 6, 2)) rfl
theorem dL_areHulls_366 : decode cL_areHulls 366 = .ok (.aload_n 0, 1) := sl_row ag_areHulls_5 gl_areHulls_5 (i := 23) (r := (46, .aload_n 0, 1)) rfl
theorem dL_areHulls_367 : decode cL_areHulls 367 = .ok (.getfield 10, 3) := sl_row ag_areHulls_5 gl_areHulls_5 (i := 24) (r := (47, .getfield 10, 3)) rfl
theorem dL_areHulls_370 : decode cL_areHulls 370 = .ok (.iload_n 2, 1) := sl_row ag_areHulls_5 gl_areHulls_5 (i := 25) (r := (50, .iload_n 2, 1)) rfl
theorem dL_areHulls_371 : decode cL_areHulls 371 = .ok (.iload_n 1, 1) := sl_row ag_areHulls_5 gl_areHulls_5 (i := 26) (r := (51, .iload_n 1, 1)) rfl
theorem dL_areHulls_372 : decode cL_areHulls 372 = .ok (.invokevirtual 136, 3) := sl_row ag_areHulls_5 gl_areHulls_5 (i := 27) (r := (52, .invokevirtual 136, 3)) rfl
theorem dL_areHulls_375 : decode cL_areHulls 375 = .ok (.aload_n 0, 1) := sl_row ag_areHulls_5 gl_areHulls_5 (i := 28) (r := (55, .aload_n 0, 1)) rfl
theorem dL_areHulls_376 : decode cL_areHulls 376 = .ok (.getfield 71, 3) := sl_row ag_areHulls_5 gl_areHulls_5 (i := 29) (r := (56, .getfield 71, 3)) rfl
theorem dL_areHulls_379 : decode cL_areHulls 379 = .ok (.if_icmp .ne 19, 3) := sl_row ag_areHulls_5 gl_areHulls_5 (i := 30) (r := (59, .if_icmp .ne 19, 3)) rfl
theorem dL_areHulls_382 : decode cL_areHulls 382 = .ok (.aload_n 0, 1) := sl_row ag_areHulls_5 gl_areHulls_5 (i := 31) (r := (62, .aload_n 0, 1)) rfl
theorem dL_areHulls_383 : decode cL_areHulls 383 = .ok (.getfield 10, 3) := sl_row ag_areHulls_5 gl_areHulls_5 (i := 32) (r := (63, .getfield 10, 3)) rfl
def ck_areHulls_6 : ByteArray := .mk #[0x00, 0x0a, 0xb6, 0x00, 0x5e, 0x15, 0x06, 0xa0, 0x00, 0x07, 0x04, 0xa7, 0x00, 0x04, 0x03, 0xac]
set_option maxRecDepth 20000 in
theorem ag_areHulls_6 : ∀ q, agB cL_areHulls ck_areHulls_6 (384 + q) q := agB_of 384 (by decide +kernel)
def tl_areHulls_6 : List (Nat × Instr × Nat) := [(2, .invokevirtual 94, 3), (5, .iload 6, 2), (7, .if_icmp .ne 7, 3), (10, .iconst 1, 1), (11, .goto 4, 3), (14, .iconst 0, 1), (15, .ireturn, 1)]
theorem gl_areHulls_6 : tl_areHulls_6.all (fun r => opB ck_areHulls_6 r.1 && decide (decode ck_areHulls_6 r.1 = .ok (r.2.1, r.2.2))) = true := by decide +kernel
theorem dL_areHulls_386 : decode cL_areHulls 386 = .ok (.invokevirtual 94, 3) := sl_row ag_areHulls_6 gl_areHulls_6 (i := 0) (r := (2, .invokevirtual 94, 3)) rfl
theorem dL_areHulls_389 : decode cL_areHulls 389 = .ok (.iload 6, 2) := sl_row ag_areHulls_6 gl_areHulls_6 (i := 1) (r := (5, .iload 6, 2)) rfl
theorem dL_areHulls_391 : decode cL_areHulls 391 = .ok (.if_icmp .ne 7, 3) := sl_row ag_areHulls_6 gl_areHulls_6 (i := 2) (r := (7, .if_icmp .ne 7, 3)) rfl
theorem dL_areHulls_394 : decode cL_areHulls 394 = .ok (.iconst 1, 1) := sl_row ag_areHulls_6 gl_areHulls_6 (i := 3) (r := (10, .iconst 1, 1)) rfl
theorem dL_areHulls_395 : decode cL_areHulls 395 = .ok (.goto 4, 3) := sl_row ag_areHulls_6 gl_areHulls_6 (i := 4) (r := (11, .goto 4, 3)) rfl
theorem dL_areHulls_398 : decode cL_areHulls 398 = .ok (.iconst 0, 1) := sl_row ag_areHulls_6 gl_areHulls_6 (i := 5) (r := (14, .iconst 0, 1)) rfl
theorem dL_areHulls_399 : decode cL_areHulls 399 = .ok (.ireturn, 1) := sl_row ag_areHulls_6 gl_areHulls_6 (i := 6) (r := (15, .ireturn, 1)) rfl
def ck_arePairs_0 : ByteArray := .mk #[0x2a, 0xb4, 0x00, 0x10, 0x2a, 0x2a, 0xb4, 0x00, 0x39, 0xb6, 0x00, 0x36, 0x2e, 0x3c, 0x2a, 0x1b, 0xb6, 0x00, 0x8e, 0x3d, 0x02, 0x3e, 0x02, 0x36, 0x04, 0x03, 0x36, 0x05, 0x03, 0x36, 0x06, 0x03, 0x36, 0x07, 0x15, 0x07, 0x2a, 0xb4, 0x00, 0x39, 0xa2, 0x00, 0xad, 0x15, 0x07, 0x04, 0x60, 0x36, 0x08, 0x15, 0x08, 0x2a, 0xb4, 0x00, 0x39, 0xa2, 0x00, 0x98, 0x2a, 0xb4, 0x00, 0x10, 0x15, 0x07, 0x2e, 0x1b, 0xa0, 0x00]
set_option maxRecDepth 20000 in
theorem ag_arePairs_0 : ∀ q, agB cL_arePairs ck_arePairs_0 (0 + q) q := agB_of 0 (by decide +kernel)
def tl_arePairs_0 : List (Nat × Instr × Nat) := [(0, .aload_n 0, 1), (1, .getfield 16, 3), (4, .aload_n 0, 1), (5, .aload_n 0, 1), (6, .getfield 57, 3), (9, .invokevirtual 54, 3), (12, .iaload, 1), (13, .istore_n 1, 1), (14, .aload_n 0, 1), (15, .iload_n 1, 1), (16, .invokevirtual 142, 3), (19, .istore_n 2, 1), (20, .iconst (-1), 1), (21, .istore_n 3, 1), (22, .iconst (-1), 1), (23, .istore 4, 2), (25, .iconst 0, 1), (26, .istore 5, 2), (28, .iconst 0, 1), (29, .istore 6, 2), (31, .iconst 0, 1), (32, .istore 7, 2), (34, .iload 7, 2), (36, .aload_n 0, 1), (37, .getfield 57, 3), (40, .if_icmp .ge 173, 3), (43, .iload 7, 2), (45, .iconst 1, 1), (46, .iadd, 1), (47, .istore 8, 2), (49, .iload 8, 2), (51, .aload_n 0, 1), (52, .getfield 57, 3), (55, .if_icmp .ge 152, 3), (58, .aload_n 0, 1), (59, .getfield 16, 3), (62, .iload 7, 2)]
theorem gl_arePairs_0 : tl_arePairs_0.all (fun r => opB ck_arePairs_0 r.1 && decide (decode ck_arePairs_0 r.1 = .ok (r.2.1, r.2.2))) = true := by decide +kernel
theorem dL_arePairs_0 : decode cL_arePairs 0 = .ok (.aload_n 0, 1) := sl_row ag_arePairs_0 gl_arePairs_0 (i := 0) (r := (0, .aload_n 0, 1)) rfl
theorem dL_arePairs_1 : decode cL_arePairs 1 = .ok (.getfield 16, 3) := sl_row ag_arePairs_0 gl_arePairs_0 (i := 1) (r := (1, .getfield 16, 3)) rfl
theorem dL_arePairs_4 : decode cL_arePairs 4 = .ok (.aload_n 0, 1) := sl_row ag_arePairs_0 gl_arePairs_0 (i := 2) (r := (4, .aload_n 0, 1)) rfl
theorem dL_arePairs_5 : decode cL_arePairs 5 = .ok (.aload_n 0, 1) := sl_row ag_arePairs_0 gl_arePairs_0 (i := 3) (r := (5, .aload_n 0, 1)) rfl
theorem dL_arePairs_6 : decode cL_arePairs 6 = .ok (.getfield 57, 3) := sl_row ag_arePairs_0 gl_arePairs_0 (i := 4) (r := (6, .getfield 57, 3)) rfl
theorem dL_arePairs_9 : decode cL_arePairs 9 = .ok (.invokevirtual 54, 3) := sl_row ag_arePairs_0 gl_arePairs_0 (i := 5) (r := (9, .invokevirtual 54, 3)) rfl
theorem dL_arePairs_12 : decode cL_arePairs 12 = .ok (.iaload, 1) := sl_row ag_arePairs_0 gl_arePairs_0 (i := 6) (r := (12, .iaload, 1)) rfl
theorem dL_arePairs_13 : decode cL_arePairs 13 = .ok (.istore_n 1, 1) := sl_row ag_arePairs_0 gl_arePairs_0 (i := 7) (r := (13, .istore_n 1, 1)) rfl
theorem dL_arePairs_14 : decode cL_arePairs 14 = .ok (.aload_n 0, 1) := sl_row ag_arePairs_0 gl_arePairs_0 (i := 8) (r := (14, .aload_n 0, 1)) rfl
theorem dL_arePairs_15 : decode cL_arePairs 15 = .ok (.iload_n 1, 1) := sl_row ag_arePairs_0 gl_arePairs_0 (i := 9) (r := (15, .iload_n 1, 1)) rfl
theorem dL_arePairs_16 : decode cL_arePairs 16 = .ok (.invokevirtual 142, 3) := sl_row ag_arePairs_0 gl_arePairs_0 (i := 10) (r := (16, .invokevirtual 142, 3)) rfl
theorem dL_arePairs_19 : decode cL_arePairs 19 = .ok (.istore_n 2, 1) := sl_row ag_arePairs_0 gl_arePairs_0 (i := 11) (r := (19, .istore_n 2, 1)) rfl
theorem dL_arePairs_20 : decode cL_arePairs 20 = .ok (.iconst (-1), 1) := sl_row ag_arePairs_0 gl_arePairs_0 (i := 12) (r := (20, .iconst (-1), 1)) rfl
theorem dL_arePairs_21 : decode cL_arePairs 21 = .ok (.istore_n 3, 1) := sl_row ag_arePairs_0 gl_arePairs_0 (i := 13) (r := (21, .istore_n 3, 1)) rfl
theorem dL_arePairs_22 : decode cL_arePairs 22 = .ok (.iconst (-1), 1) := sl_row ag_arePairs_0 gl_arePairs_0 (i := 14) (r := (22, .iconst (-1), 1)) rfl
theorem dL_arePairs_23 : decode cL_arePairs 23 = .ok (.istore 4, 2) := sl_row ag_arePairs_0 gl_arePairs_0 (i := 15) (r := (23, .istore 4, 2)) rfl
theorem dL_arePairs_25 : decode cL_arePairs 25 = .ok (.iconst 0, 1) := sl_row ag_arePairs_0 gl_arePairs_0 (i := 16) (r := (25, .iconst 0, 1)) rfl
theorem dL_arePairs_26 : decode cL_arePairs 26 = .ok (.istore 5, 2) := sl_row ag_arePairs_0 gl_arePairs_0 (i := 17) (r := (26, .istore 5, 2)) rfl
theorem dL_arePairs_28 : decode cL_arePairs 28 = .ok (.iconst 0, 1) := sl_row ag_arePairs_0 gl_arePairs_0 (i := 18) (r := (28, .iconst 0, 1)) rfl
theorem dL_arePairs_29 : decode cL_arePairs 29 = .ok (.istore 6, 2) := sl_row ag_arePairs_0 gl_arePairs_0 (i := 19) (r := (29, .istore 6, 2)) rfl
theorem dL_arePairs_31 : decode cL_arePairs 31 = .ok (.iconst 0, 1) := sl_row ag_arePairs_0 gl_arePairs_0 (i := 20) (r := (31, .iconst 0, 1)) rfl
theorem dL_arePairs_32 : decode cL_arePairs 32 = .ok (.istore 7, 2) := sl_row ag_arePairs_0 gl_arePairs_0 (i := 21) (r := (32, .istore 7, 2)) rfl
theorem dL_arePairs_34 : decode cL_arePairs 34 = .ok (.iload 7, 2) := sl_row ag_arePairs_0 gl_arePairs_0 (i := 22) (r := (34, .iload 7, 2)) rfl
theorem dL_arePairs_36 : decode cL_arePairs 36 = .ok (.aload_n 0, 1) := sl_row ag_arePairs_0 gl_arePairs_0 (i := 23) (r := (36, .aload_n 0, 1)) rfl
theorem dL_arePairs_37 : decode cL_arePairs 37 = .ok (.getfield 57, 3) := sl_row ag_arePairs_0 gl_arePairs_0 (i := 24) (r := (37, .getfield 57, 3)) rfl
theorem dL_arePairs_40 : decode cL_arePairs 40 = .ok (.if_icmp .ge 173, 3) := sl_row ag_arePairs_0 gl_arePairs_0 (i := 25) (r := (40, .if_icmp .ge 173, 3)) rfl
theorem dL_arePairs_43 : decode cL_arePairs 43 = .ok (.iload 7, 2) := sl_row ag_arePairs_0 gl_arePairs_0 (i := 26) (r := (43, .iload 7, 2)) rfl
theorem dL_arePairs_45 : decode cL_arePairs 45 = .ok (.iconst 1, 1) := sl_row ag_arePairs_0 gl_arePairs_0 (i := 27) (r := (45, .iconst 1, 1)) rfl
theorem dL_arePairs_46 : decode cL_arePairs 46 = .ok (.iadd, 1) := sl_row ag_arePairs_0 gl_arePairs_0 (i := 28) (r := (46, .iadd, 1)) rfl
theorem dL_arePairs_47 : decode cL_arePairs 47 = .ok (.istore 8, 2) := sl_row ag_arePairs_0 gl_arePairs_0 (i := 29) (r := (47, .istore 8, 2)) rfl
theorem dL_arePairs_49 : decode cL_arePairs 49 = .ok (.iload 8, 2) := sl_row ag_arePairs_0 gl_arePairs_0 (i := 30) (r := (49, .iload 8, 2)) rfl
theorem dL_arePairs_51 : decode cL_arePairs 51 = .ok (.aload_n 0, 1) := sl_row ag_arePairs_0 gl_arePairs_0 (i := 31) (r := (51, .aload_n 0, 1)) rfl
theorem dL_arePairs_52 : decode cL_arePairs 52 = .ok (.getfield 57, 3) := sl_row ag_arePairs_0 gl_arePairs_0 (i := 32) (r := (52, .getfield 57, 3)) rfl
theorem dL_arePairs_55 : decode cL_arePairs 55 = .ok (.if_icmp .ge 152, 3) := sl_row ag_arePairs_0 gl_arePairs_0 (i := 33) (r := (55, .if_icmp .ge 152, 3)) rfl
theorem dL_arePairs_58 : decode cL_arePairs 58 = .ok (.aload_n 0, 1) := sl_row ag_arePairs_0 gl_arePairs_0 (i := 34) (r := (58, .aload_n 0, 1)) rfl
theorem dL_arePairs_59 : decode cL_arePairs 59 = .ok (.getfield 16, 3) := sl_row ag_arePairs_0 gl_arePairs_0 (i := 35) (r := (59, .getfield 16, 3)) rfl
theorem dL_arePairs_62 : decode cL_arePairs 62 = .ok (.iload 7, 2) := sl_row ag_arePairs_0 gl_arePairs_0 (i := 36) (r := (62, .iload 7, 2)) rfl
def ck_arePairs_1 : ByteArray := .mk #[0x2e, 0x1b, 0xa0, 0x00, 0x87, 0x2a, 0xb4, 0x00, 0x10, 0x15, 0x08, 0x2e, 0x1b, 0x9f, 0x00, 0x06, 0xa7, 0x00, 0x79, 0x2a, 0xb4, 0x00, 0x14, 0x15, 0x07, 0x2e, 0x2a, 0xb4, 0x00, 0x14, 0x15, 0x08, 0x2e, 0x64, 0x2a, 0xb4, 0x00, 0x14, 0x15, 0x07, 0x2e, 0x2a, 0xb4, 0x00, 0x14, 0x15, 0x08, 0x2e, 0x64, 0x68, 0x2a, 0xb4, 0x00, 0x17, 0x15, 0x07, 0x2e, 0x2a, 0xb4, 0x00, 0x17, 0x15, 0x08, 0x2e, 0x64, 0x2a, 0xb4, 0x00]
set_option maxRecDepth 20000 in
theorem ag_arePairs_1 : ∀ q, agB cL_arePairs ck_arePairs_1 (64 + q) q := agB_of 64 (by decide +kernel)
def tl_arePairs_1 : List (Nat × Instr × Nat) := [(0, .iaload, 1), (1, .iload_n 1, 1), (2, .if_icmp .ne 135, 3), (5, .aload_n 0, 1), (6, .getfield 16, 3), (9, .iload 8, 2), (11, .iaload, 1), (12, .iload_n 1, 1), (13, .if_icmp .eq 6, 3), (16, .goto 121, 3), (19, .aload_n 0, 1), (20, .getfield 20, 3), (23, .iload 7, 2), (25, .iaload, 1), (26, .aload_n 0, 1), (27, .getfield 20, 3), (30, .iload 8, 2), (32, .iaload, 1), (33, .isub, 1), (34, .aload_n 0, 1), (35, .getfield 20, 3), (38, .iload 7, 2), (40, .iaload, 1), (41, .aload_n 0, 1), (42, .getfield 20, 3), (45, .iload 8, 2), (47, .iaload, 1), (48, .isub, 1), (49, .imul, 1), (50, .aload_n 0, 1), (51, .getfield 23, 3), (54, .iload 7, 2), (56, .iaload, 1), (57, .aload_n 0, 1), (58, .getfield 23, 3), (61, .iload 8, 2), (63, .iaload, 1)]
theorem gl_arePairs_1 : tl_arePairs_1.all (fun r => opB ck_arePairs_1 r.1 && decide (decode ck_arePairs_1 r.1 = .ok (r.2.1, r.2.2))) = true := by decide +kernel
theorem dL_arePairs_64 : decode cL_arePairs 64 = .ok (.iaload, 1) := sl_row ag_arePairs_1 gl_arePairs_1 (i := 0) (r := (0, .iaload, 1)) rfl
theorem dL_arePairs_65 : decode cL_arePairs 65 = .ok (.iload_n 1, 1) := sl_row ag_arePairs_1 gl_arePairs_1 (i := 1) (r := (1, .iload_n 1, 1)) rfl
theorem dL_arePairs_66 : decode cL_arePairs 66 = .ok (.if_icmp .ne 135, 3) := sl_row ag_arePairs_1 gl_arePairs_1 (i := 2) (r := (2, .if_icmp .ne 135, 3)) rfl
theorem dL_arePairs_69 : decode cL_arePairs 69 = .ok (.aload_n 0, 1) := sl_row ag_arePairs_1 gl_arePairs_1 (i := 3) (r := (5, .aload_n 0, 1)) rfl
theorem dL_arePairs_70 : decode cL_arePairs 70 = .ok (.getfield 16, 3) := sl_row ag_arePairs_1 gl_arePairs_1 (i := 4) (r := (6, .getfield 16, 3)) rfl
theorem dL_arePairs_73 : decode cL_arePairs 73 = .ok (.iload 8, 2) := sl_row ag_arePairs_1 gl_arePairs_1 (i := 5) (r := (9, .iload 8, 2)) rfl
theorem dL_arePairs_75 : decode cL_arePairs 75 = .ok (.iaload, 1) := sl_row ag_arePairs_1 gl_arePairs_1 (i := 6) (r := (11, .iaload, 1)) rfl
theorem dL_arePairs_76 : decode cL_arePairs 76 = .ok (.iload_n 1, 1) := sl_row ag_arePairs_1 gl_arePairs_1 (i := 7) (r := (12, .iload_n 1, 1)) rfl
theorem dL_arePairs_77 : decode cL_arePairs 77 = .ok (.if_icmp .eq 6, 3) := sl_row ag_arePairs_1 gl_arePairs_1 (i := 8) (r := (13, .if_icmp .eq 6, 3)) rfl
theorem dL_arePairs_80 : decode cL_arePairs 80 = .ok (.goto 121, 3) := sl_row ag_arePairs_1 gl_arePairs_1 (i := 9) (r := (16, .goto 121, 3)) rfl
theorem dL_arePairs_83 : decode cL_arePairs 83 = .ok (.aload_n 0, 1) := sl_row ag_arePairs_1 gl_arePairs_1 (i := 10) (r := (19, .aload_n 0, 1)) rfl
theorem dL_arePairs_84 : decode cL_arePairs 84 = .ok (.getfield 20, 3) := sl_row ag_arePairs_1 gl_arePairs_1 (i := 11) (r := (20, .getfield 20, 3)) rfl
theorem dL_arePairs_87 : decode cL_arePairs 87 = .ok (.iload 7, 2) := sl_row ag_arePairs_1 gl_arePairs_1 (i := 12) (r := (23, .iload 7, 2)) rfl
theorem dL_arePairs_89 : decode cL_arePairs 89 = .ok (.iaload, 1) := sl_row ag_arePairs_1 gl_arePairs_1 (i := 13) (r := (25, .iaload, 1)) rfl
theorem dL_arePairs_90 : decode cL_arePairs 90 = .ok (.aload_n 0, 1) := sl_row ag_arePairs_1 gl_arePairs_1 (i := 14) (r := (26, .aload_n 0, 1)) rfl
theorem dL_arePairs_91 : decode cL_arePairs 91 = .ok (.getfield 20, 3) := sl_row ag_arePairs_1 gl_arePairs_1 (i := 15) (r := (27, .getfield 20, 3)) rfl
theorem dL_arePairs_94 : decode cL_arePairs 94 = .ok (.iload 8, 2) := sl_row ag_arePairs_1 gl_arePairs_1 (i := 16) (r := (30, .iload 8, 2)) rfl
theorem dL_arePairs_96 : decode cL_arePairs 96 = .ok (.iaload, 1) := sl_row ag_arePairs_1 gl_arePairs_1 (i := 17) (r := (32, .iaload, 1)) rfl
theorem dL_arePairs_97 : decode cL_arePairs 97 = .ok (.isub, 1) := sl_row ag_arePairs_1 gl_arePairs_1 (i := 18) (r := (33, .isub, 1)) rfl
theorem dL_arePairs_98 : decode cL_arePairs 98 = .ok (.aload_n 0, 1) := sl_row ag_arePairs_1 gl_arePairs_1 (i := 19) (r := (34, .aload_n 0, 1)) rfl
theorem dL_arePairs_99 : decode cL_arePairs 99 = .ok (.getfield 20, 3) := sl_row ag_arePairs_1 gl_arePairs_1 (i := 20) (r := (35, .getfield 20, 3)) rfl
theorem dL_arePairs_102 : decode cL_arePairs 102 = .ok (.iload 7, 2) := sl_row ag_arePairs_1 gl_arePairs_1 (i := 21) (r := (38, .iload 7, 2)) rfl
theorem dL_arePairs_104 : decode cL_arePairs 104 = .ok (.iaload, 1) := sl_row ag_arePairs_1 gl_arePairs_1 (i := 22) (r := (40, .iaload, 1)) rfl
theorem dL_arePairs_105 : decode cL_arePairs 105 = .ok (.aload_n 0, 1) := sl_row ag_arePairs_1 gl_arePairs_1 (i := 23) (r := (41, .aload_n 0, 1)) rfl
theorem dL_arePairs_106 : decode cL_arePairs 106 = .ok (.getfield 20, 3) := sl_row ag_arePairs_1 gl_arePairs_1 (i := 24) (r := (42, .getfield 20, 3)) rfl
theorem dL_arePairs_109 : decode cL_arePairs 109 = .ok (.iload 8, 2) := sl_row ag_arePairs_1 gl_arePairs_1 (i := 25) (r := (45, .iload 8, 2)) rfl
theorem dL_arePairs_111 : decode cL_arePairs 111 = .ok (.iaload, 1) := sl_row ag_arePairs_1 gl_arePairs_1 (i := 26) (r := (47, .iaload, 1)) rfl
theorem dL_arePairs_112 : decode cL_arePairs 112 = .ok (.isub, 1) := sl_row ag_arePairs_1 gl_arePairs_1 (i := 27) (r := (48, .isub, 1)) rfl
theorem dL_arePairs_113 : decode cL_arePairs 113 = .ok (.imul, 1) := sl_row ag_arePairs_1 gl_arePairs_1 (i := 28) (r := (49, .imul, 1)) rfl
theorem dL_arePairs_114 : decode cL_arePairs 114 = .ok (.aload_n 0, 1) := sl_row ag_arePairs_1 gl_arePairs_1 (i := 29) (r := (50, .aload_n 0, 1)) rfl
theorem dL_arePairs_115 : decode cL_arePairs 115 = .ok (.getfield 23, 3) := sl_row ag_arePairs_1 gl_arePairs_1 (i := 30) (r := (51, .getfield 23, 3)) rfl
theorem dL_arePairs_118 : decode cL_arePairs 118 = .ok (.iload 7, 2) := sl_row ag_arePairs_1 gl_arePairs_1 (i := 31) (r := (54, .iload 7, 2)) rfl
theorem dL_arePairs_120 : decode cL_arePairs 120 = .ok (.iaload, 1) := sl_row ag_arePairs_1 gl_arePairs_1 (i := 32) (r := (56, .iaload, 1)) rfl
theorem dL_arePairs_121 : decode cL_arePairs 121 = .ok (.aload_n 0, 1) := sl_row ag_arePairs_1 gl_arePairs_1 (i := 33) (r := (57, .aload_n 0, 1)) rfl
theorem dL_arePairs_122 : decode cL_arePairs 122 = .ok (.getfield 23, 3) := sl_row ag_arePairs_1 gl_arePairs_1 (i := 34) (r := (58, .getfield 23, 3)) rfl
theorem dL_arePairs_125 : decode cL_arePairs 125 = .ok (.iload 8, 2) := sl_row ag_arePairs_1 gl_arePairs_1 (i := 35) (r := (61, .iload 8, 2)) rfl
theorem dL_arePairs_127 : decode cL_arePairs 127 = .ok (.iaload, 1) := sl_row ag_arePairs_1 gl_arePairs_1 (i := 36) (r := (63, .iaload, 1)) rfl
def ck_arePairs_2 : ByteArray := .mk #[0x64, 0x2a, 0xb4, 0x00, 0x17, 0x15, 0x07, 0x2e, 0x2a, 0xb4, 0x00, 0x17, 0x15, 0x08, 0x2e, 0x64, 0x68, 0x60, 0x36, 0x09, 0x1d, 0x9b, 0x00, 0x0a, 0x15, 0x09, 0x15, 0x05, 0xa2, 0x00, 0x10, 0x10, 0x64, 0x15, 0x07, 0x68, 0x15, 0x08, 0x60, 0x3e, 0x15, 0x09, 0x36, 0x05, 0x15, 0x04, 0x9b, 0x00, 0x0d, 0x15, 0x09, 0x15, 0x06, 0xa3, 0x00, 0x06, 0xa7, 0x00, 0x11, 0x10, 0x64, 0x15, 0x07, 0x68, 0x15, 0x08, 0x60, 0x36]
set_option maxRecDepth 20000 in
theorem ag_arePairs_2 : ∀ q, agB cL_arePairs ck_arePairs_2 (128 + q) q := agB_of 128 (by decide +kernel)
def tl_arePairs_2 : List (Nat × Instr × Nat) := [(0, .isub, 1), (1, .aload_n 0, 1), (2, .getfield 23, 3), (5, .iload 7, 2), (7, .iaload, 1), (8, .aload_n 0, 1), (9, .getfield 23, 3), (12, .iload 8, 2), (14, .iaload, 1), (15, .isub, 1), (16, .imul, 1), (17, .iadd, 1), (18, .istore 9, 2), (20, .iload_n 3, 1), (21, .ifCond .lt 10, 3), (24, .iload 9, 2), (26, .iload 5, 2), (28, .if_icmp .ge 16, 3), (31, .bipush 100, 2), (33, .iload 7, 2), (35, .imul, 1), (36, .iload 8, 2), (38, .iadd, 1), (39, .istore_n 3, 1), (40, .iload 9, 2), (42, .istore 5, 2), (44, .iload 4, 2), (46, .ifCond .lt 13, 3), (49, .iload 9, 2), (51, .iload 6, 2), (53, .if_icmp .gt 6, 3), (56, .goto 17, 3), (59, .bipush 100, 2), (61, .iload 7, 2), (63, .imul, 1)]
theorem gl_arePairs_2 : tl_arePairs_2.all (fun r => opB ck_arePairs_2 r.1 && decide (decode ck_arePairs_2 r.1 = .ok (r.2.1, r.2.2))) = true := by decide +kernel
theorem dL_arePairs_128 : decode cL_arePairs 128 = .ok (.isub, 1) := sl_row ag_arePairs_2 gl_arePairs_2 (i := 0) (r := (0, .isub, 1)) rfl
theorem dL_arePairs_129 : decode cL_arePairs 129 = .ok (.aload_n 0, 1) := sl_row ag_arePairs_2 gl_arePairs_2 (i := 1) (r := (1, .aload_n 0, 1)) rfl
theorem dL_arePairs_130 : decode cL_arePairs 130 = .ok (.getfield 23, 3) := sl_row ag_arePairs_2 gl_arePairs_2 (i := 2) (r := (2, .getfield 23, 3)) rfl
theorem dL_arePairs_133 : decode cL_arePairs 133 = .ok (.iload 7, 2) := sl_row ag_arePairs_2 gl_arePairs_2 (i := 3) (r := (5, .iload 7, 2)) rfl
theorem dL_arePairs_135 : decode cL_arePairs 135 = .ok (.iaload, 1) := sl_row ag_arePairs_2 gl_arePairs_2 (i := 4) (r := (7, .iaload, 1)) rfl
theorem dL_arePairs_136 : decode cL_arePairs 136 = .ok (.aload_n 0, 1) := sl_row ag_arePairs_2 gl_arePairs_2 (i := 5) (r := (8, .aload_n 0, 1)) rfl
theorem dL_arePairs_137 : decode cL_arePairs 137 = .ok (.getfield 23, 3) := sl_row ag_arePairs_2 gl_arePairs_2 (i := 6) (r := (9, .getfield 23, 3)) rfl
theorem dL_arePairs_140 : decode cL_arePairs 140 = .ok (.iload 8, 2) := sl_row ag_arePairs_2 gl_arePairs_2 (i := 7) (r := (12, .iload 8, 2)) rfl
theorem dL_arePairs_142 : decode cL_arePairs 142 = .ok (.iaload, 1) := sl_row ag_arePairs_2 gl_arePairs_2 (i := 8) (r := (14, .iaload, 1)) rfl
theorem dL_arePairs_143 : decode cL_arePairs 143 = .ok (.isub, 1) := sl_row ag_arePairs_2 gl_arePairs_2 (i := 9) (r := (15, .isub, 1)) rfl
theorem dL_arePairs_144 : decode cL_arePairs 144 = .ok (.imul, 1) := sl_row ag_arePairs_2 gl_arePairs_2 (i := 10) (r := (16, .imul, 1)) rfl
theorem dL_arePairs_145 : decode cL_arePairs 145 = .ok (.iadd, 1) := sl_row ag_arePairs_2 gl_arePairs_2 (i := 11) (r := (17, .iadd, 1)) rfl
theorem dL_arePairs_146 : decode cL_arePairs 146 = .ok (.istore 9, 2) := sl_row ag_arePairs_2 gl_arePairs_2 (i := 12) (r := (18, .istore 9, 2)) rfl
theorem dL_arePairs_148 : decode cL_arePairs 148 = .ok (.iload_n 3, 1) := sl_row ag_arePairs_2 gl_arePairs_2 (i := 13) (r := (20, .iload_n 3, 1)) rfl
theorem dL_arePairs_149 : decode cL_arePairs 149 = .ok (.ifCond .lt 10, 3) := sl_row ag_arePairs_2 gl_arePairs_2 (i := 14) (r := (21, .ifCond .lt 10, 3)) rfl
theorem dL_arePairs_152 : decode cL_arePairs 152 = .ok (.iload 9, 2) := sl_row ag_arePairs_2 gl_arePairs_2 (i := 15) (r := (24, .iload 9, 2)) rfl
theorem dL_arePairs_154 : decode cL_arePairs 154 = .ok (.iload 5, 2) := sl_row ag_arePairs_2 gl_arePairs_2 (i := 16) (r := (26, .iload 5, 2)) rfl
theorem dL_arePairs_156 : decode cL_arePairs 156 = .ok (.if_icmp .ge 16, 3) := sl_row ag_arePairs_2 gl_arePairs_2 (i := 17) (r := (28, .if_icmp .ge 16, 3)) rfl
theorem dL_arePairs_159 : decode cL_arePairs 159 = .ok (.bipush 100, 2) := sl_row ag_arePairs_2 gl_arePairs_2 (i := 18) (r := (31, .bipush 100, 2)) rfl
theorem dL_arePairs_161 : decode cL_arePairs 161 = .ok (.iload 7, 2) := sl_row ag_arePairs_2 gl_arePairs_2 (i := 19) (r := (33, .iload 7, 2)) rfl
theorem dL_arePairs_163 : decode cL_arePairs 163 = .ok (.imul, 1) := sl_row ag_arePairs_2 gl_arePairs_2 (i := 20) (r := (35, .imul, 1)) rfl
theorem dL_arePairs_164 : decode cL_arePairs 164 = .ok (.iload 8, 2) := sl_row ag_arePairs_2 gl_arePairs_2 (i := 21) (r := (36, .iload 8, 2)) rfl
theorem dL_arePairs_166 : decode cL_arePairs 166 = .ok (.iadd, 1) := sl_row ag_arePairs_2 gl_arePairs_2 (i := 22) (r := (38, .iadd, 1)) rfl
theorem dL_arePairs_167 : decode cL_arePairs 167 = .ok (.istore_n 3, 1) := sl_row ag_arePairs_2 gl_arePairs_2 (i := 23) (r := (39, .istore_n 3, 1)) rfl
theorem dL_arePairs_168 : decode cL_arePairs 168 = .ok (.iload 9, 2) := sl_row ag_arePairs_2 gl_arePairs_2 (i := 24) (r := (40, .iload 9, 2)) rfl
theorem dL_arePairs_170 : decode cL_arePairs 170 = .ok (.istore 5, 2) := sl_row ag_arePairs_2 gl_arePairs_2 (i := 25) (r := (42, .istore 5, 2)) rfl
theorem dL_arePairs_172 : decode cL_arePairs 172 = .ok (.iload 4, 2) := sl_row ag_arePairs_2 gl_arePairs_2 (i := 26) (r := (44, .iload 4, 2)) rfl
theorem dL_arePairs_174 : decode cL_arePairs 174 = .ok (.ifCond .lt 13, 3) := sl_row ag_arePairs_2 gl_arePairs_2 (i := 27) (r := (46, .ifCond .lt 13, 3)) rfl
theorem dL_arePairs_177 : decode cL_arePairs 177 = .ok (.iload 9, 2) := sl_row ag_arePairs_2 gl_arePairs_2 (i := 28) (r := (49, .iload 9, 2)) rfl
theorem dL_arePairs_179 : decode cL_arePairs 179 = .ok (.iload 6, 2) := sl_row ag_arePairs_2 gl_arePairs_2 (i := 29) (r := (51, .iload 6, 2)) rfl
theorem dL_arePairs_181 : decode cL_arePairs 181 = .ok (.if_icmp .gt 6, 3) := sl_row ag_arePairs_2 gl_arePairs_2 (i := 30) (r := (53, .if_icmp .gt 6, 3)) rfl
theorem dL_arePairs_184 : decode cL_arePairs 184 = .ok (.goto 17, 3) := sl_row ag_arePairs_2 gl_arePairs_2 (i := 31) (r := (56, .goto 17, 3)) rfl
theorem dL_arePairs_187 : decode cL_arePairs 187 = .ok (.bipush 100, 2) := sl_row ag_arePairs_2 gl_arePairs_2 (i := 32) (r := (59, .bipush 100, 2)) rfl
theorem dL_arePairs_189 : decode cL_arePairs 189 = .ok (.iload 7, 2) := sl_row ag_arePairs_2 gl_arePairs_2 (i := 33) (r := (61, .iload 7, 2)) rfl
theorem dL_arePairs_191 : decode cL_arePairs 191 = .ok (.imul, 1) := sl_row ag_arePairs_2 gl_arePairs_2 (i := 34) (r := (63, .imul, 1)) rfl
def ck_arePairs_3 : ByteArray := .mk #[0x15, 0x08, 0x60, 0x36, 0x04, 0x15, 0x09, 0x36, 0x06, 0x84, 0x08, 0x01, 0xa7, 0xff, 0x65, 0x84, 0x07, 0x01, 0xa7, 0xff, 0x50, 0x1c, 0x04, 0xa4, 0x00, 0x3c, 0x2a, 0xb4, 0x00, 0x0a, 0x1b, 0x03, 0xb6, 0x00, 0x91, 0x1d, 0xa0, 0x00, 0x2d, 0x2a, 0xb4, 0x00, 0x0a, 0x1b, 0x04, 0xb6, 0x00, 0x91, 0x15, 0x04, 0xa0, 0x00, 0x1f, 0x2a, 0xb4, 0x00, 0x0a, 0x1b, 0x03, 0xb6, 0x00, 0x94, 0x15, 0x05, 0xa0, 0x00, 0x11, 0x2a]
set_option maxRecDepth 20000 in
theorem ag_arePairs_3 : ∀ q, agB cL_arePairs ck_arePairs_3 (192 + q) q := agB_of 192 (by decide +kernel)
def tl_arePairs_3 : List (Nat × Instr × Nat) := [(0, .iload 8, 2), (2, .iadd, 1), (3, .istore 4, 2), (5, .iload 9, 2), (7, .istore 6, 2), (9, .iinc 8 1, 3), (12, .goto (-155), 3), (15, .iinc 7 1, 3), (18, .goto (-176), 3), (21, .iload_n 2, 1), (22, .iconst 1, 1), (23, .if_icmp .le 60, 3), (26, .aload_n 0, 1), (27, .getfield 10, 3), (30, .iload_n 1, 1), (31, .iconst 0, 1), (32, .invokevirtual 145, 3), (35, .iload_n 3, 1), (36, .if_icmp .ne 45, 3), (39, .aload_n 0, 1), (40, .getfield 10, 3), (43, .iload_n 1, 1), (44, .iconst 1, 1), (45, .invokevirtual 145, 3), (48, .iload 4, 2), (50, .if_icmp .ne 31, 3), (53, .aload_n 0, 1), (54, .getfield 10, 3), (57, .iload_n 1, 1), (58, .iconst 0, 1), (59, .invokevirtual 148, 3), (62, .iload 5, 2)]
theorem gl_arePairs_3 : tl_arePairs_3.all (fun r => opB ck_arePairs_3 r.1 && decide (decode ck_arePairs_3 r.1 = .ok (r.2.1, r.2.2))) = true := by decide +kernel
theorem dL_arePairs_192 : decode cL_arePairs 192 = .ok (.iload 8, 2) := sl_row ag_arePairs_3 gl_arePairs_3 (i := 0) (r := (0, .iload 8, 2)) rfl
theorem dL_arePairs_194 : decode cL_arePairs 194 = .ok (.iadd, 1) := sl_row ag_arePairs_3 gl_arePairs_3 (i := 1) (r := (2, .iadd, 1)) rfl
theorem dL_arePairs_195 : decode cL_arePairs 195 = .ok (.istore 4, 2) := sl_row ag_arePairs_3 gl_arePairs_3 (i := 2) (r := (3, .istore 4, 2)) rfl
theorem dL_arePairs_197 : decode cL_arePairs 197 = .ok (.iload 9, 2) := sl_row ag_arePairs_3 gl_arePairs_3 (i := 3) (r := (5, .iload 9, 2)) rfl
theorem dL_arePairs_199 : decode cL_arePairs 199 = .ok (.istore 6, 2) := sl_row ag_arePairs_3 gl_arePairs_3 (i := 4) (r := (7, .istore 6, 2)) rfl
theorem dL_arePairs_201 : decode cL_arePairs 201 = .ok (.iinc 8 1, 3) := sl_row ag_arePairs_3 gl_arePairs_3 (i := 5) (r := (9, .iinc 8 1, 3)) rfl
theorem dL_arePairs_204 : decode cL_arePairs 204 = .ok (.goto (-155), 3) := sl_row ag_arePairs_3 gl_arePairs_3 (i := 6) (r := (12, .goto (-155), 3)) rfl
theorem dL_arePairs_207 : decode cL_arePairs 207 = .ok (.iinc 7 1, 3) := sl_row ag_arePairs_3 gl_arePairs_3 (i := 7) (r := (15, .iinc 7 1, 3)) rfl
theorem dL_arePairs_210 : decode cL_arePairs 210 = .ok (.goto (-176), 3) := sl_row ag_arePairs_3 gl_arePairs_3 (i := 8) (r := (18, .goto (-176), 3)) rfl
theorem dL_arePairs_213 : decode cL_arePairs 213 = .ok (.iload_n 2, 1) := sl_row ag_arePairs_3 gl_arePairs_3 (i := 9) (r := (21, .iload_n 2, 1)) rfl
theorem dL_arePairs_214 : decode cL_arePairs 214 = .ok (.iconst 1, 1) := sl_row ag_arePairs_3 gl_arePairs_3 (i := 10) (r := (22, .iconst 1, 1)) rfl
theorem dL_arePairs_215 : decode cL_arePairs 215 = .ok (.if_icmp .le 60, 3) := sl_row ag_arePairs_3 gl_arePairs_3 (i := 11) (r := (23, .if_icmp .le 60, 3)) rfl
theorem dL_arePairs_218 : decode cL_arePairs 218 = .ok (.aload_n 0, 1) := sl_row ag_arePairs_3 gl_arePairs_3 (i := 12) (r := (26, .aload_n 0, 1)) rfl
theorem dL_arePairs_219 : decode cL_arePairs 219 = .ok (.getfield 10, 3) := sl_row ag_arePairs_3 gl_arePairs_3 (i := 13) (r := (27, .getfield 10, 3)) rfl
theorem dL_arePairs_222 : decode cL_arePairs 222 = .ok (.iload_n 1, 1) := sl_row ag_arePairs_3 gl_arePairs_3 (i := 14) (r := (30, .iload_n 1, 1)) rfl
theorem dL_arePairs_223 : decode cL_arePairs 223 = .ok (.iconst 0, 1) := sl_row ag_arePairs_3 gl_arePairs_3 (i := 15) (r := (31, .iconst 0, 1)) rfl
theorem dL_arePairs_224 : decode cL_arePairs 224 = .ok (.invokevirtual 145, 3) := sl_row ag_arePairs_3 gl_arePairs_3 (i := 16) (r := (32, .invokevirtual 145, 3)) rfl
theorem dL_arePairs_227 : decode cL_arePairs 227 = .ok (.iload_n 3, 1) := sl_row ag_arePairs_3 gl_arePairs_3 (i := 17) (r := (35, .iload_n 3, 1)) rfl
theorem dL_arePairs_228 : decode cL_arePairs 228 = .ok (.if_icmp .ne 45, 3) := sl_row ag_arePairs_3 gl_arePairs_3 (i := 18) (r := (36, .if_icmp .ne 45, 3)) rfl
theorem dL_arePairs_231 : decode cL_arePairs 231 = .ok (.aload_n 0, 1) := sl_row ag_arePairs_3 gl_arePairs_3 (i := 19) (r := (39, .aload_n 0, 1)) rfl
theorem dL_arePairs_232 : decode cL_arePairs 232 = .ok (.getfield 10, 3) := sl_row ag_arePairs_3 gl_arePairs_3 (i := 20) (r := (40, .getfield 10, 3)) rfl
theorem dL_arePairs_235 : decode cL_arePairs 235 = .ok (.iload_n 1, 1) := sl_row ag_arePairs_3 gl_arePairs_3 (i := 21) (r := (43, .iload_n 1, 1)) rfl
theorem dL_arePairs_236 : decode cL_arePairs 236 = .ok (.iconst 1, 1) := sl_row ag_arePairs_3 gl_arePairs_3 (i := 22) (r := (44, .iconst 1, 1)) rfl
theorem dL_arePairs_237 : decode cL_arePairs 237 = .ok (.invokevirtual 145, 3) := sl_row ag_arePairs_3 gl_arePairs_3 (i := 23) (r := (45, .invokevirtual 145, 3)) rfl
theorem dL_arePairs_240 : decode cL_arePairs 240 = .ok (.iload 4, 2) := sl_row ag_arePairs_3 gl_arePairs_3 (i := 24) (r := (48, .iload 4, 2)) rfl
theorem dL_arePairs_242 : decode cL_arePairs 242 = .ok (.if_icmp .ne 31, 3) := sl_row ag_arePairs_3 gl_arePairs_3 (i := 25) (r := (50, .if_icmp .ne 31, 3)) rfl
theorem dL_arePairs_245 : decode cL_arePairs 245 = .ok (.aload_n 0, 1) := sl_row ag_arePairs_3 gl_arePairs_3 (i := 26) (r := (53, .aload_n 0, 1)) rfl
theorem dL_arePairs_246 : decode cL_arePairs 246 = .ok (.getfield 10, 3) := sl_row ag_arePairs_3 gl_arePairs_3 (i := 27) (r := (54, .getfield 10, 3)) rfl
theorem dL_arePairs_249 : decode cL_arePairs 249 = .ok (.iload_n 1, 1) := sl_row ag_arePairs_3 gl_arePairs_3 (i := 28) (r := (57, .iload_n 1, 1)) rfl
theorem dL_arePairs_250 : decode cL_arePairs 250 = .ok (.iconst 0, 1) := sl_row ag_arePairs_3 gl_arePairs_3 (i := 29) (r := (58, .iconst 0, 1)) rfl
theorem dL_arePairs_251 : decode cL_arePairs 251 = .ok (.invokevirtual 148, 3) := sl_row ag_arePairs_3 gl_arePairs_3 (i := 30) (r := (59, .invokevirtual 148, 3)) rfl
theorem dL_arePairs_254 : decode cL_arePairs 254 = .ok (.iload 5, 2) := sl_row ag_arePairs_3 gl_arePairs_3 (i := 31) (r := (62, .iload 5, 2)) rfl
def ck_arePairs_4 : ByteArray := .mk #[0xa0, 0x00, 0x11, 0x2a, 0xb4, 0x00, 0x0a, 0x1b, 0x04, 0xb6, 0x00, 0x94, 0x15, 0x06, 0x9f, 0x00, 0x05, 0x03, 0xac, 0x2a, 0xb4, 0x00, 0x0a, 0x1b, 0x04, 0xb6, 0x00, 0x97, 0x2a, 0xb4, 0x00, 0x0a, 0x1b, 0x03, 0xb6, 0x00, 0x97, 0x64, 0x2a, 0xb4, 0x00, 0x0a, 0x1b, 0x06, 0xb6, 0x00, 0x97, 0x60, 0x2a, 0xb4, 0x00, 0x0a, 0x1b, 0x05, 0xb6, 0x00, 0x97, 0x64, 0x36, 0x07, 0x2a, 0xb4, 0x00, 0x0a, 0x1b, 0xb6, 0x00, 0x9a]
set_option maxRecDepth 20000 in
theorem ag_arePairs_4 : ∀ q, agB cL_arePairs ck_arePairs_4 (256 + q) q := agB_of 256 (by decide +kernel)
def tl_arePairs_4 : List (Nat × Instr × Nat) := [(0, .if_icmp .ne 17, 3), (3, .aload_n 0, 1), (4, .getfield 10, 3), (7, .iload_n 1, 1), (8, .iconst 1, 1), (9, .invokevirtual 148, 3), (12, .iload 6, 2), (14, .if_icmp .eq 5, 3), (17, .iconst 0, 1), (18, .ireturn, 1), (19, .aload_n 0, 1), (20, .getfield 10, 3), (23, .iload_n 1, 1), (24, .iconst 1, 1), (25, .invokevirtual 151, 3), (28, .aload_n 0, 1), (29, .getfield 10, 3), (32, .iload_n 1, 1), (33, .iconst 0, 1), (34, .invokevirtual 151, 3), (37, .isub, 1), (38, .aload_n 0, 1), (39, .getfield 10, 3), (42, .iload_n 1, 1), (43, .iconst 3, 1), (44, .invokevirtual 151, 3), (47, .iadd, 1), (48, .aload_n 0, 1), (49, .getfield 10, 3), (52, .iload_n 1, 1), (53, .iconst 2, 1), (54, .invokevirtual 151, 3), (57, .isub, 1), (58, .istore 7, 2), (60, .aload_n 0, 1), (61, .getfield 10, 3)]
theorem gl_arePairs_4 : tl_arePairs_4.all (fun r => opB ck_arePairs_4 r.1 && decide (decode ck_arePairs_4 r.1 = .ok (r.2.1, r.2.2))) = true := by decide +kernel
theorem dL_arePairs_256 : decode cL_arePairs 256 = .ok (.if_icmp .ne 17, 3) := sl_row ag_arePairs_4 gl_arePairs_4 (i := 0) (r := (0, .if_icmp .ne 17, 3)) rfl
theorem dL_arePairs_259 : decode cL_arePairs 259 = .ok (.aload_n 0, 1) := sl_row ag_arePairs_4 gl_arePairs_4 (i := 1) (r := (3, .aload_n 0, 1)) rfl
theorem dL_arePairs_260 : decode cL_arePairs 260 = .ok (.getfield 10, 3) := sl_row ag_arePairs_4 gl_arePairs_4 (i := 2) (r := (4, .getfield 10, 3)) rfl
theorem dL_arePairs_263 : decode cL_arePairs 263 = .ok (.iload_n 1, 1) := sl_row ag_arePairs_4 gl_arePairs_4 (i := 3) (r := (7, .iload_n 1, 1)) rfl
theorem dL_arePairs_264 : decode cL_arePairs 264 = .ok (.iconst 1, 1) := sl_row ag_arePairs_4 gl_arePairs_4 (i := 4) (r := (8, .iconst 1, 1)) rfl
theorem dL_arePairs_265 : decode cL_arePairs 265 = .ok (.invokevirtual 148, 3) := sl_row ag_arePairs_4 gl_arePairs_4 (i := 5) (r := (9, .invokevirtual 148, 3)) rfl
theorem dL_arePairs_268 : decode cL_arePairs 268 = .ok (.iload 6, 2) := sl_row ag_arePairs_4 gl_arePairs_4 (i := 6) (r := (12, .iload 6, 2)) rfl
theorem dL_arePairs_270 : decode cL_arePairs 270 = .ok (.if_icmp .eq 5, 3) := sl_row ag_arePairs_4 gl_arePairs_4 (i := 7) (r := (14, .if_icmp .eq 5, 3)) rfl
theorem dL_arePairs_273 : decode cL_arePairs 273 = .ok (.iconst 0, 1) := sl_row ag_arePairs_4 gl_arePairs_4 (i := 8) (r := (17, .iconst 0, 1)) rfl
theorem dL_arePairs_274 : decode cL_arePairs 274 = .ok (.ireturn, 1) := sl_row ag_arePairs_4 gl_arePairs_4 (i := 9) (r := (18, .ireturn, 1)) rfl
theorem dL_arePairs_275 : decode cL_arePairs 275 = .ok (.aload_n 0, 1) := sl_row ag_arePairs_4 gl_arePairs_4 (i := 10) (r := (19, .aload_n 0, 1)) rfl
theorem dL_arePairs_276 : decode cL_arePairs 276 = .ok (.getfield 10, 3) := sl_row ag_arePairs_4 gl_arePairs_4 (i := 11) (r := (20, .getfield 10, 3)) rfl
theorem dL_arePairs_279 : decode cL_arePairs 279 = .ok (.iload_n 1, 1) := sl_row ag_arePairs_4 gl_arePairs_4 (i := 12) (r := (23, .iload_n 1, 1)) rfl
theorem dL_arePairs_280 : decode cL_arePairs 280 = .ok (.iconst 1, 1) := sl_row ag_arePairs_4 gl_arePairs_4 (i := 13) (r := (24, .iconst 1, 1)) rfl
theorem dL_arePairs_281 : decode cL_arePairs 281 = .ok (.invokevirtual 151, 3) := sl_row ag_arePairs_4 gl_arePairs_4 (i := 14) (r := (25, .invokevirtual 151, 3)) rfl
theorem dL_arePairs_284 : decode cL_arePairs 284 = .ok (.aload_n 0, 1) := sl_row ag_arePairs_4 gl_arePairs_4 (i := 15) (r := (28, .aload_n 0, 1)) rfl
theorem dL_arePairs_285 : decode cL_arePairs 285 = .ok (.getfield 10, 3) := sl_row ag_arePairs_4 gl_arePairs_4 (i := 16) (r := (29, .getfield 10, 3)) rfl
theorem dL_arePairs_288 : decode cL_arePairs 288 = .ok (.iload_n 1, 1) := sl_row ag_arePairs_4 gl_arePairs_4 (i := 17) (r := (32, .iload_n 1, 1)) rfl
theorem dL_arePairs_289 : decode cL_arePairs 289 = .ok (.iconst 0, 1) := sl_row ag_arePairs_4 gl_arePairs_4 (i := 18) (r := (33, .iconst 0, 1)) rfl
theorem dL_arePairs_290 : decode cL_arePairs 290 = .ok (.invokevirtual 151, 3) := sl_row ag_arePairs_4 gl_arePairs_4 (i := 19) (r := (34, .invokevirtual 151, 3)) rfl
theorem dL_arePairs_293 : decode cL_arePairs 293 = .ok (.isub, 1) := sl_row ag_arePairs_4 gl_arePairs_4 (i := 20) (r := (37, .isub, 1)) rfl
theorem dL_arePairs_294 : decode cL_arePairs 294 = .ok (.aload_n 0, 1) := sl_row ag_arePairs_4 gl_arePairs_4 (i := 21) (r := (38, .aload_n 0, 1)) rfl
theorem dL_arePairs_295 : decode cL_arePairs 295 = .ok (.getfield 10, 3) := sl_row ag_arePairs_4 gl_arePairs_4 (i := 22) (r := (39, .getfield 10, 3)) rfl
theorem dL_arePairs_298 : decode cL_arePairs 298 = .ok (.iload_n 1, 1) := sl_row ag_arePairs_4 gl_arePairs_4 (i := 23) (r := (42, .iload_n 1, 1)) rfl
theorem dL_arePairs_299 : decode cL_arePairs 299 = .ok (.iconst 3, 1) := sl_row ag_arePairs_4 gl_arePairs_4 (i := 24) (r := (43, .iconst 3, 1)) rfl
theorem dL_arePairs_300 : decode cL_arePairs 300 = .ok (.invokevirtual 151, 3) := sl_row ag_arePairs_4 gl_arePairs_4 (i := 25) (r := (44, .invokevirtual 151, 3)) rfl
theorem dL_arePairs_303 : decode cL_arePairs 303 = .ok (.iadd, 1) := sl_row ag_arePairs_4 gl_arePairs_4 (i := 26) (r := (47, .iadd, 1)) rfl
theorem dL_arePairs_304 : decode cL_arePairs 304 = .ok (.aload_n 0, 1) := sl_row ag_arePairs_4 gl_arePairs_4 (i := 27) (r := (48, .aload_n 0, 1)) rfl
theorem dL_arePairs_305 : decode cL_arePairs 305 = .ok (.getfield 10, 3) := sl_row ag_arePairs_4 gl_arePairs_4 (i := 28) (r := (49, .getfield 10, 3)) rfl
theorem dL_arePairs_308 : decode cL_arePairs 308 = .ok (.iload_n 1, 1) := sl_row ag_arePairs_4 gl_arePairs_4 (i := 29) (r := (52, .iload_n 1, 1)) rfl
theorem dL_arePairs_309 : decode cL_arePairs 309 = .ok (.iconst 2, 1) := sl_row ag_arePairs_4 gl_arePairs_4 (i := 30) (r := (53, .iconst 2, 1)) rfl
theorem dL_arePairs_310 : decode cL_arePairs 310 = .ok (.invokevirtual 151, 3) := sl_row ag_arePairs_4 gl_arePairs_4 (i := 31) (r := (54, .invokevirtual 151, 3)) rfl
theorem dL_arePairs_313 : decode cL_arePairs 313 = .ok (.isub, 1) := sl_row ag_arePairs_4 gl_arePairs_4 (i := 32) (r := (57, .isub, 1)) rfl
theorem dL_arePairs_314 : decode cL_arePairs 314 = .ok (.istore 7, 2) := sl_row ag_arePairs_4 gl_arePairs_4 (i := 33) (r := (58, .istore 7, 2)) rfl
theorem dL_arePairs_316 : decode cL_arePairs 316 = .ok (.aload_n 0, 1) := sl_row ag_arePairs_4 gl_arePairs_4 (i := 34) (r := (60, .aload_n 0, 1)) rfl
theorem dL_arePairs_317 : decode cL_arePairs 317 = .ok (.getfield 10, 3) := sl_row ag_arePairs_4 gl_arePairs_4 (i := 35) (r := (61, .getfield 10, 3)) rfl
def ck_arePairs_5 : ByteArray := .mk #[0x1b, 0xb6, 0x00, 0x9a, 0x1c, 0xa0, 0x00, 0x40, 0x2a, 0xb4, 0x00, 0x0a, 0x1b, 0x1c, 0xb6, 0x00, 0x9d, 0x15, 0x07, 0xa0, 0x00, 0x32, 0x2a, 0xb4, 0x00, 0x0a, 0x1b, 0x04, 0xb6, 0x00, 0x9d, 0x9a, 0x00, 0x26, 0x1c, 0x04, 0xa4, 0x00, 0x23, 0x2a, 0xb4, 0x00, 0x0a, 0x1b, 0xb6, 0x00, 0xa0, 0x1c, 0xa2, 0x00, 0x07, 0x04, 0xa7, 0x00, 0x04, 0x03, 0x15, 0x05, 0x9a, 0x00, 0x07, 0x04, 0xa7, 0x00, 0x04, 0x03, 0x9f, 0x00]
set_option maxRecDepth 20000 in
theorem ag_arePairs_5 : ∀ q, agB cL_arePairs ck_arePairs_5 (320 + q) q := agB_of 320 (by decide +kernel)
def tl_arePairs_5 : List (Nat × Instr × Nat) := [(0, .iload_n 1, 1), (1, .invokevirtual 154, 3), (4, .iload_n 2, 1), (5, .if_icmp .ne 64, 3), (8, .aload_n 0, 1), (9, .getfield 10, 3), (12, .iload_n 1, 1), (13, .iload_n 2, 1), (14, .invokevirtual 157, 3), (17, .iload 7, 2), (19, .if_icmp .ne 50, 3), (22, .aload_n 0, 1), (23, .getfield 10, 3), (26, .iload_n 1, 1), (27, .iconst 1, 1), (28, .invokevirtual 157, 3), (31, .ifCond .ne 38, 3), (34, .iload_n 2, 1), (35, .iconst 1, 1), (36, .if_icmp .le 35, 3), (39, .aload_n 0, 1), (40, .getfield 10, 3), (43, .iload_n 1, 1), (44, .invokevirtual 160, 3), (47, .iload_n 2, 1), (48, .if_icmp .ge 7, 3), (51, .iconst 1, 1), (52, .goto 4, 3), (55, .iconst 0, 1), (56, .iload 5, 2), (58, .ifCond .ne 7, 3), (61, .iconst 1, 1), (62, .goto 4, 3)]
theorem gl_arePairs_5 : tl_arePairs_5.all (fun r => opB ck_arePairs_5 r.1 && decide (decode ck_arePairs_5 r.1 = .ok (r.2.1, r.2.2))) = true := by decide +kernel
theorem dL_arePairs_320 : decode cL_arePairs 320 = .ok (.iload_n 1, 1) := sl_row ag_arePairs_5 gl_arePairs_5 (i := 0) (r := (0, .iload_n 1, 1)) rfl
theorem dL_arePairs_321 : decode cL_arePairs 321 = .ok (.invokevirtual 154, 3) := sl_row ag_arePairs_5 gl_arePairs_5 (i := 1) (r := (1, .invokevirtual 154, 3)) rfl
theorem dL_arePairs_324 : decode cL_arePairs 324 = .ok (.iload_n 2, 1) := sl_row ag_arePairs_5 gl_arePairs_5 (i := 2) (r := (4, .iload_n 2, 1)) rfl
theorem dL_arePairs_325 : decode cL_arePairs 325 = .ok (.if_icmp .ne 64, 3) := sl_row ag_arePairs_5 gl_arePairs_5 (i := 3) (r := (5, .if_icmp .ne 64, 3)) rfl
theorem dL_arePairs_328 : decode cL_arePairs 328 = .ok (.aload_n 0, 1) := sl_row ag_arePairs_5 gl_arePairs_5 (i := 4) (r := (8, .aload_n 0, 1)) rfl
theorem dL_arePairs_329 : decode cL_arePairs 329 = .ok (.getfield 10, 3) := sl_row ag_arePairs_5 gl_arePairs_5 (i := 5) (r := (9, .getfield 10, 3)) rfl
theorem dL_arePairs_332 : decode cL_arePairs 332 = .ok (.iload_n 1, 1) := sl_row ag_arePairs_5 gl_arePairs_5 (i := 6) (r := (12, .iload_n 1, 1)) rfl
theorem dL_arePairs_333 : decode cL_arePairs 333 = .ok (.iload_n 2, 1) := sl_row ag_arePairs_5 gl_arePairs_5 (i := 7) (r := (13, .iload_n 2, 1)) rfl
theorem dL_arePairs_334 : decode cL_arePairs 334 = .ok (.invokevirtual 157, 3) := sl_row ag_arePairs_5 gl_arePairs_5 (i := 8) (r := (14, .invokevirtual 157, 3)) rfl
theorem dL_arePairs_337 : decode cL_arePairs 337 = .ok (.iload 7, 2) := sl_row ag_arePairs_5 gl_arePairs_5 (i := 9) (r := (17, .iload 7, 2)) rfl
theorem dL_arePairs_339 : decode cL_arePairs 339 = .ok (.if_icmp .ne 50, 3) := sl_row ag_arePairs_5 gl_arePairs_5 (i := 10) (r := (19, .if_icmp .ne 50, 3)) rfl
theorem dL_arePairs_342 : decode cL_arePairs 342 = .ok (.aload_n 0, 1) := sl_row ag_arePairs_5 gl_arePairs_5 (i := 11) (r := (22, .aload_n 0, 1)) rfl
theorem dL_arePairs_343 : decode cL_arePairs 343 = .ok (.getfield 10, 3) := sl_row ag_arePairs_5 gl_arePairs_5 (i := 12) (r := (23, .getfield 10, 3)) rfl
theorem dL_arePairs_346 : decode cL_arePairs 346 = .ok (.iload_n 1, 1) := sl_row ag_arePairs_5 gl_arePairs_5 (i := 13) (r := (26, .iload_n 1, 1)) rfl
theorem dL_arePairs_347 : decode cL_arePairs 347 = .ok (.iconst 1, 1) := sl_row ag_arePairs_5 gl_arePairs_5 (i := 14) (r := (27, .iconst 1, 1)) rfl
theorem dL_arePairs_348 : decode cL_arePairs 348 = .ok (.invokevirtual 157, 3) := sl_row ag_arePairs_5 gl_arePairs_5 (i := 15) (r := (28, .invokevirtual 157, 3)) rfl
theorem dL_arePairs_351 : decode cL_arePairs 351 = .ok (.ifCond .ne 38, 3) := sl_row ag_arePairs_5 gl_arePairs_5 (i := 16) (r := (31, .ifCond .ne 38, 3)) rfl
theorem dL_arePairs_354 : decode cL_arePairs 354 = .ok (.iload_n 2, 1) := sl_row ag_arePairs_5 gl_arePairs_5 (i := 17) (r := (34, .iload_n 2, 1)) rfl
theorem dL_arePairs_355 : decode cL_arePairs 355 = .ok (.iconst 1, 1) := sl_row ag_arePairs_5 gl_arePairs_5 (i := 18) (r := (35, .iconst 1, 1)) rfl
theorem dL_arePairs_356 : decode cL_arePairs 356 = .ok (.if_icmp .le 35, 3) := sl_row ag_arePairs_5 gl_arePairs_5 (i := 19) (r := (36, .if_icmp .le 35, 3)) rfl
theorem dL_arePairs_359 : decode cL_arePairs 359 = .ok (.aload_n 0, 1) := sl_row ag_arePairs_5 gl_arePairs_5 (i := 20) (r := (39, .aload_n 0, 1)) rfl
theorem dL_arePairs_360 : decode cL_arePairs 360 = .ok (.getfield 10, 3) := sl_row ag_arePairs_5 gl_arePairs_5 (i := 21) (r := (40, .getfield 10, 3)) rfl
theorem dL_arePairs_363 : decode cL_arePairs 363 = .ok (.iload_n 1, 1) := sl_row ag_arePairs_5 gl_arePairs_5 (i := 22) (r := (43, .iload_n 1, 1)) rfl
theorem dL_arePairs_364 : decode cL_arePairs 364 = .ok (.invokevirtual 160, 3) := sl_row ag_arePairs_5 gl_arePairs_5 (i := 23) (r := (44, .invokevirtual 160, 3)) rfl
theorem dL_arePairs_367 : decode cL_arePairs 367 = .ok (.iload_n 2, 1) := sl_row ag_arePairs_5 gl_arePairs_5 (i := 24) (r := (47, .iload_n 2, 1)) rfl
theorem dL_arePairs_368 : decode cL_arePairs 368 = .ok (.if_icmp .ge 7, 3) := sl_row ag_arePairs_5 gl_arePairs_5 (i := 25) (r := (48, .if_icmp .ge 7, 3)) rfl
theorem dL_arePairs_371 : decode cL_arePairs 371 = .ok (.iconst 1, 1) := sl_row ag_arePairs_5 gl_arePairs_5 (i := 26) (r := (51, .iconst 1, 1)) rfl
theorem dL_arePairs_372 : decode cL_arePairs 372 = .ok (.goto 4, 3) := sl_row ag_arePairs_5 gl_arePairs_5 (i := 27) (r := (52, .goto 4, 3)) rfl
theorem dL_arePairs_375 : decode cL_arePairs 375 = .ok (.iconst 0, 1) := sl_row ag_arePairs_5 gl_arePairs_5 (i := 28) (r := (55, .iconst 0, 1)) rfl
theorem dL_arePairs_376 : decode cL_arePairs 376 = .ok (.iload 5, 2) := sl_row ag_arePairs_5 gl_arePairs_5 (i := 29) (r := (56, .iload 5, 2)) rfl
theorem dL_arePairs_378 : decode cL_arePairs 378 = .ok (.ifCond .ne 7, 3) := sl_row ag_arePairs_5 gl_arePairs_5 (i := 30) (r := (58, .ifCond .ne 7, 3)) rfl
theorem dL_arePairs_381 : decode cL_arePairs 381 = .ok (.iconst 1, 1) := sl_row ag_arePairs_5 gl_arePairs_5 (i := 31) (r := (61, .iconst 1, 1)) rfl
theorem dL_arePairs_382 : decode cL_arePairs 382 = .ok (.goto 4, 3) := sl_row ag_arePairs_5 gl_arePairs_5 (i := 32) (r := (62, .goto 4, 3)) rfl
def ck_arePairs_6 : ByteArray := .mk #[0x04, 0x03, 0x9f, 0x00, 0x05, 0x03, 0xac, 0x03, 0x36, 0x08, 0x04, 0x36, 0x09, 0x15, 0x09, 0x1c, 0xa3, 0x00, 0x92, 0x2a, 0xb4, 0x00, 0x0a, 0x1b, 0x15, 0x09, 0xb6, 0x00, 0x9d, 0x36, 0x0a, 0x15, 0x0a, 0x15, 0x08, 0xa1, 0x00, 0x0a, 0x15, 0x0a, 0x15, 0x07, 0xa4, 0x00, 0x05, 0x03, 0xac, 0x15, 0x0a, 0x36, 0x08, 0x15, 0x09, 0x04, 0xa4, 0x00, 0x33, 0x2a, 0xb4, 0x00, 0x0a, 0x2a, 0xb4, 0x00, 0x0a, 0x1b, 0x15, 0x09]
set_option maxRecDepth 20000 in
theorem ag_arePairs_6 : ∀ q, agB cL_arePairs ck_arePairs_6 (384 + q) q := agB_of 384 (by decide +kernel)
def tl_arePairs_6 : List (Nat × Instr × Nat) := [(1, .iconst 0, 1), (2, .if_icmp .eq 5, 3), (5, .iconst 0, 1), (6, .ireturn, 1), (7, .iconst 0, 1), (8, .istore 8, 2), (10, .iconst 1, 1), (11, .istore 9, 2), (13, .iload 9, 2), (15, .iload_n 2, 1), (16, .if_icmp .gt 146, 3), (19, .aload_n 0, 1), (20, .getfield 10, 3), (23, .iload_n 1, 1), (24, .iload 9, 2), (26, .invokevirtual 157, 3), (29, .istore 10, 2), (31, .iload 10, 2), (33, .iload 8, 2), (35, .if_icmp .lt 10, 3), (38, .iload 10, 2), (40, .iload 7, 2), (42, .if_icmp .le 5, 3), (45, .iconst 0, 1), (46, .ireturn, 1), (47, .iload 10, 2), (49, .istore 8, 2), (51, .iload 9, 2), (53, .iconst 1, 1), (54, .if_icmp .le 51, 3), (57, .aload_n 0, 1), (58, .getfield 10, 3), (61, .aload_n 0, 1), (62, .getfield 10, 3)]
theorem gl_arePairs_6 : tl_arePairs_6.all (fun r => opB ck_arePairs_6 r.1 && decide (decode ck_arePairs_6 r.1 = .ok (r.2.1, r.2.2))) = true := by decide +kernel
theorem dL_arePairs_385 : decode cL_arePairs 385 = .ok (.iconst 0, 1) := sl_row ag_arePairs_6 gl_arePairs_6 (i := 0) (r := (1, .iconst 0, 1)) rfl
theorem dL_arePairs_386 : decode cL_arePairs 386 = .ok (.if_icmp .eq 5, 3) := sl_row ag_arePairs_6 gl_arePairs_6 (i := 1) (r := (2, .if_icmp .eq 5, 3)) rfl
theorem dL_arePairs_389 : decode cL_arePairs 389 = .ok (.iconst 0, 1) := sl_row ag_arePairs_6 gl_arePairs_6 (i := 2) (r := (5, .iconst 0, 1)) rfl
theorem dL_arePairs_390 : decode cL_arePairs 390 = .ok (.ireturn, 1) := sl_row ag_arePairs_6 gl_arePairs_6 (i := 3) (r := (6, .ireturn, 1)) rfl
theorem dL_arePairs_391 : decode cL_arePairs 391 = .ok (.iconst 0, 1) := sl_row ag_arePairs_6 gl_arePairs_6 (i := 4) (r := (7, .iconst 0, 1)) rfl
theorem dL_arePairs_392 : decode cL_arePairs 392 = .ok (.istore 8, 2) := sl_row ag_arePairs_6 gl_arePairs_6 (i := 5) (r := (8, .istore 8, 2)) rfl
theorem dL_arePairs_394 : decode cL_arePairs 394 = .ok (.iconst 1, 1) := sl_row ag_arePairs_6 gl_arePairs_6 (i := 6) (r := (10, .iconst 1, 1)) rfl
theorem dL_arePairs_395 : decode cL_arePairs 395 = .ok (.istore 9, 2) := sl_row ag_arePairs_6 gl_arePairs_6 (i := 7) (r := (11, .istore 9, 2)) rfl
theorem dL_arePairs_397 : decode cL_arePairs 397 = .ok (.iload 9, 2) := sl_row ag_arePairs_6 gl_arePairs_6 (i := 8) (r := (13, .iload 9, 2)) rfl
theorem dL_arePairs_399 : decode cL_arePairs 399 = .ok (.iload_n 2, 1) := sl_row ag_arePairs_6 gl_arePairs_6 (i := 9) (r := (15, .iload_n 2, 1)) rfl
theorem dL_arePairs_400 : decode cL_arePairs 400 = .ok (.if_icmp .gt 146, 3) := sl_row ag_arePairs_6 gl_arePairs_6 (i := 10) (r := (16, .if_icmp .gt 146, 3)) rfl
theorem dL_arePairs_403 : decode cL_arePairs 403 = .ok (.aload_n 0, 1) := sl_row ag_arePairs_6 gl_arePairs_6 (i := 11) (r := (19, .aload_n 0, 1)) rfl
theorem dL_arePairs_404 : decode cL_arePairs 404 = .ok (.getfield 10, 3) := sl_row ag_arePairs_6 gl_arePairs_6 (i := 12) (r := (20, .getfield 10, 3)) rfl
theorem dL_arePairs_407 : decode cL_arePairs 407 = .ok (.iload_n 1, 1) := sl_row ag_arePairs_6 gl_arePairs_6 (i := 13) (r := (23, .iload_n 1, 1)) rfl
theorem dL_arePairs_408 : decode cL_arePairs 408 = .ok (.iload 9, 2) := sl_row ag_arePairs_6 gl_arePairs_6 (i := 14) (r := (24, .iload 9, 2)) rfl
theorem dL_arePairs_410 : decode cL_arePairs 410 = .ok (.invokevirtual 157, 3) := sl_row ag_arePairs_6 gl_arePairs_6 (i := 15) (r := (26, .invokevirtual 157, 3)) rfl
theorem dL_arePairs_413 : decode cL_arePairs 413 = .ok (.istore 10, 2) := sl_row ag_arePairs_6 gl_arePairs_6 (i := 16) (r := (29, .istore 10, 2)) rfl
theorem dL_arePairs_415 : decode cL_arePairs 415 = .ok (.iload 10, 2) := sl_row ag_arePairs_6 gl_arePairs_6 (i := 17) (r := (31, .iload 10, 2)) rfl
theorem dL_arePairs_417 : decode cL_arePairs 417 = .ok (.iload 8, 2) := sl_row ag_arePairs_6 gl_arePairs_6 (i := 18) (r := (33, .iload 8, 2)) rfl
theorem dL_arePairs_419 : decode cL_arePairs 419 = .ok (.if_icmp .lt 10, 3) := sl_row ag_arePairs_6 gl_arePairs_6 (i := 19) (r := (35, .if_icmp .lt 10, 3)) rfl
theorem dL_arePairs_422 : decode cL_arePairs 422 = .ok (.iload 10, 2) := sl_row ag_arePairs_6 gl_arePairs_6 (i := 20) (r := (38, .iload 10, 2)) rfl
theorem dL_arePairs_424 : decode cL_arePairs 424 = .ok (.iload 7, 2) := sl_row ag_arePairs_6 gl_arePairs_6 (i := 21) (r := (40, .iload 7, 2)) rfl
theorem dL_arePairs_426 : decode cL_arePairs 426 = .ok (.if_icmp .le 5, 3) := sl_row ag_arePairs_6 gl_arePairs_6 (i := 22) (r := (42, .if_icmp .le 5, 3)) rfl
theorem dL_arePairs_429 : decode cL_arePairs 429 = .ok (.iconst 0, 1) := sl_row ag_arePairs_6 gl_arePairs_6 (i := 23) (r := (45, .iconst 0, 1)) rfl
theorem dL_arePairs_430 : decode cL_arePairs 430 = .ok (.ireturn, 1) := sl_row ag_arePairs_6 gl_arePairs_6 (i := 24) (r := (46, .ireturn, 1)) rfl
theorem dL_arePairs_431 : decode cL_arePairs 431 = .ok (.iload 10, 2) := sl_row ag_arePairs_6 gl_arePairs_6 (i := 25) (r := (47, .iload 10, 2)) rfl
theorem dL_arePairs_433 : decode cL_arePairs 433 = .ok (.istore 8, 2) := sl_row ag_arePairs_6 gl_arePairs_6 (i := 26) (r := (49, .istore 8, 2)) rfl
theorem dL_arePairs_435 : decode cL_arePairs 435 = .ok (.iload 9, 2) := sl_row ag_arePairs_6 gl_arePairs_6 (i := 27) (r := (51, .iload 9, 2)) rfl
theorem dL_arePairs_437 : decode cL_arePairs 437 = .ok (.iconst 1, 1) := sl_row ag_arePairs_6 gl_arePairs_6 (i := 28) (r := (53, .iconst 1, 1)) rfl
theorem dL_arePairs_438 : decode cL_arePairs 438 = .ok (.if_icmp .le 51, 3) := sl_row ag_arePairs_6 gl_arePairs_6 (i := 29) (r := (54, .if_icmp .le 51, 3)) rfl
theorem dL_arePairs_441 : decode cL_arePairs 441 = .ok (.aload_n 0, 1) := sl_row ag_arePairs_6 gl_arePairs_6 (i := 30) (r := (57, .aload_n 0, 1)) rfl
theorem dL_arePairs_442 : decode cL_arePairs 442 = .ok (.getfield 10, 3) := sl_row ag_arePairs_6 gl_arePairs_6 (i := 31) (r := (58, .getfield 10, 3)) rfl
theorem dL_arePairs_445 : decode cL_arePairs 445 = .ok (.aload_n 0, 1) := sl_row ag_arePairs_6 gl_arePairs_6 (i := 32) (r := (61, .aload_n 0, 1)) rfl
theorem dL_arePairs_446 : decode cL_arePairs 446 = .ok (.getfield 10, 3) := sl_row ag_arePairs_6 gl_arePairs_6 (i := 33) (r := (62, .getfield 10, 3)) rfl
def ck_arePairs_7 : ByteArray := .mk #[0x0a, 0x1b, 0x15, 0x09, 0x05, 0x64, 0xb6, 0x00, 0xa3, 0x2a, 0xb4, 0x00, 0x0a, 0x1b, 0x15, 0x09, 0x04, 0x64, 0xb6, 0x00, 0xa3, 0x2a, 0xb4, 0x00, 0x0a, 0x1b, 0x15, 0x09, 0x04, 0x64, 0xb6, 0x00, 0xa3, 0xb6, 0x00, 0xa6, 0x99, 0x00, 0x05, 0x03, 0xac, 0x15, 0x09, 0x04, 0xa4, 0x00, 0x30, 0x2a, 0xb4, 0x00, 0x0a, 0x2a, 0xb4, 0x00, 0x0a, 0x1b, 0x15, 0x09, 0x04, 0x64, 0xb6, 0x00, 0xa3, 0x04, 0xb6, 0x00, 0xa8, 0x2a]
set_option maxRecDepth 20000 in
theorem ag_arePairs_7 : ∀ q, agB cL_arePairs ck_arePairs_7 (448 + q) q := agB_of 448 (by decide +kernel)
def tl_arePairs_7 : List (Nat × Instr × Nat) := [(1, .iload_n 1, 1), (2, .iload 9, 2), (4, .iconst 2, 1), (5, .isub, 1), (6, .invokevirtual 163, 3), (9, .aload_n 0, 1), (10, .getfield 10, 3), (13, .iload_n 1, 1), (14, .iload 9, 2), (16, .iconst 1, 1), (17, .isub, 1), (18, .invokevirtual 163, 3), (21, .aload_n 0, 1), (22, .getfield 10, 3), (25, .iload_n 1, 1), (26, .iload 9, 2), (28, .iconst 1, 1), (29, .isub, 1), (30, .invokevirtual 163, 3), (33, .invokevirtual 166, 3), (36, .ifCond .eq 5, 3), (39, .iconst 0, 1), (40, .ireturn, 1), (41, .iload 9, 2), (43, .iconst 1, 1), (44, .if_icmp .le 48, 3), (47, .aload_n 0, 1), (48, .getfield 10, 3), (51, .aload_n 0, 1), (52, .getfield 10, 3), (55, .iload_n 1, 1), (56, .iload 9, 2), (58, .iconst 1, 1), (59, .isub, 1), (60, .invokevirtual 163, 3), (63, .iconst 1, 1)]
theorem gl_arePairs_7 : tl_arePairs_7.all (fun r => opB ck_arePairs_7 r.1 && decide (decode ck_arePairs_7 r.1 = .ok (r.2.1, r.2.2))) = true := by decide +kernel
theorem dL_arePairs_449 : decode cL_arePairs 449 = .ok (.iload_n 1, 1) := sl_row ag_arePairs_7 gl_arePairs_7 (i := 0) (r := (1, .iload_n 1, 1)) rfl
theorem dL_arePairs_450 : decode cL_arePairs 450 = .ok (.iload 9, 2) := sl_row ag_arePairs_7 gl_arePairs_7 (i := 1) (r := (2, .iload 9, 2)) rfl
theorem dL_arePairs_452 : decode cL_arePairs 452 = .ok (.iconst 2, 1) := sl_row ag_arePairs_7 gl_arePairs_7 (i := 2) (r := (4, .iconst 2, 1)) rfl
theorem dL_arePairs_453 : decode cL_arePairs 453 = .ok (.isub, 1) := sl_row ag_arePairs_7 gl_arePairs_7 (i := 3) (r := (5, .isub, 1)) rfl
theorem dL_arePairs_454 : decode cL_arePairs 454 = .ok (.invokevirtual 163, 3) := sl_row ag_arePairs_7 gl_arePairs_7 (i := 4) (r := (6, .invokevirtual 163, 3)) rfl
theorem dL_arePairs_457 : decode cL_arePairs 457 = .ok (.aload_n 0, 1) := sl_row ag_arePairs_7 gl_arePairs_7 (i := 5) (r := (9, .aload_n 0, 1)) rfl
theorem dL_arePairs_458 : decode cL_arePairs 458 = .ok (.getfield 10, 3) := sl_row ag_arePairs_7 gl_arePairs_7 (i := 6) (r := (10, .getfield 10, 3)) rfl
theorem dL_arePairs_461 : decode cL_arePairs 461 = .ok (.iload_n 1, 1) := sl_row ag_arePairs_7 gl_arePairs_7 (i := 7) (r := (13, .iload_n 1, 1)) rfl
theorem dL_arePairs_462 : decode cL_arePairs 462 = .ok (.iload 9, 2) := sl_row ag_arePairs_7 gl_arePairs_7 (i := 8) (r := (14, .iload 9, 2)) rfl
theorem dL_arePairs_464 : decode cL_arePairs 464 = .ok (.iconst 1, 1) := sl_row ag_arePairs_7 gl_arePairs_7 (i := 9) (r := (16, .iconst 1, 1)) rfl
theorem dL_arePairs_465 : decode cL_arePairs 465 = .ok (.isub, 1) := sl_row ag_arePairs_7 gl_arePairs_7 (i := 10) (r := (17, .isub, 1)) rfl
theorem dL_arePairs_466 : decode cL_arePairs 466 = .ok (.invokevirtual 163, 3) := sl_row ag_arePairs_7 gl_arePairs_7 (i := 11) (r := (18, .invokevirtual 163, 3)) rfl
theorem dL_arePairs_469 : decode cL_arePairs 469 = .ok (.aload_n 0, 1) := sl_row ag_arePairs_7 gl_arePairs_7 (i := 12) (r := (21, .aload_n 0, 1)) rfl
theorem dL_arePairs_470 : decode cL_arePairs 470 = .ok (.getfield 10, 3) := sl_row ag_arePairs_7 gl_arePairs_7 (i := 13) (r := (22, .getfield 10, 3)) rfl
theorem dL_arePairs_473 : decode cL_arePairs 473 = .ok (.iload_n 1, 1) := sl_row ag_arePairs_7 gl_arePairs_7 (i := 14) (r := (25, .iload_n 1, 1)) rfl
theorem dL_arePairs_474 : decode cL_arePairs 474 = .ok (.iload 9, 2) := sl_row ag_arePairs_7 gl_arePairs_7 (i := 15) (r := (26, .iload 9, 2)) rfl
theorem dL_arePairs_476 : decode cL_arePairs 476 = .ok (.iconst 1, 1) := sl_row ag_arePairs_7 gl_arePairs_7 (i := 16) (r := (28, .iconst 1, 1)) rfl
theorem dL_arePairs_477 : decode cL_arePairs 477 = .ok (.isub, 1) := sl_row ag_arePairs_7 gl_arePairs_7 (i := 17) (r := (29, .isub, 1)) rfl
theorem dL_arePairs_478 : decode cL_arePairs 478 = .ok (.invokevirtual 163, 3) := sl_row ag_arePairs_7 gl_arePairs_7 (i := 18) (r := (30, .invokevirtual 163, 3)) rfl
theorem dL_arePairs_481 : decode cL_arePairs 481 = .ok (.invokevirtual 166, 3) := sl_row ag_arePairs_7 gl_arePairs_7 (i := 19) (r := (33, .invokevirtual 166, 3)) rfl
theorem dL_arePairs_484 : decode cL_arePairs 484 = .ok (.ifCond .eq 5, 3) := sl_row ag_arePairs_7 gl_arePairs_7 (i := 20) (r := (36, .ifCond .eq 5, 3)) rfl
theorem dL_arePairs_487 : decode cL_arePairs 487 = .ok (.iconst 0, 1) := sl_row ag_arePairs_7 gl_arePairs_7 (i := 21) (r := (39, .iconst 0, 1)) rfl
theorem dL_arePairs_488 : decode cL_arePairs 488 = .ok (.ireturn, 1) := sl_row ag_arePairs_7 gl_arePairs_7 (i := 22) (r := (40, .ireturn, 1)) rfl
theorem dL_arePairs_489 : decode cL_arePairs 489 = .ok (.iload 9, 2) := sl_row ag_arePairs_7 gl_arePairs_7 (i := 23) (r := (41, .iload 9, 2)) rfl
theorem dL_arePairs_491 : decode cL_arePairs 491 = .ok (.iconst 1, 1) := sl_row ag_arePairs_7 gl_arePairs_7 (i := 24) (r := (43, .iconst 1, 1)) rfl
theorem dL_arePairs_492 : decode cL_arePairs 492 = .ok (.if_icmp .le 48, 3) := sl_row ag_arePairs_7 gl_arePairs_7 (i := 25) (r := (44, .if_icmp .le 48, 3)) rfl
theorem dL_arePairs_495 : decode cL_arePairs 495 = .ok (.aload_n 0, 1) := sl_row ag_arePairs_7 gl_arePairs_7 (i := 26) (r := (47, .aload_n 0, 1)) rfl
theorem dL_arePairs_496 : decode cL_arePairs 496 = .ok (.getfield 10, 3) := sl_row ag_arePairs_7 gl_arePairs_7 (i := 27) (r := (48, .getfield 10, 3)) rfl
theorem dL_arePairs_499 : decode cL_arePairs 499 = .ok (.aload_n 0, 1) := sl_row ag_arePairs_7 gl_arePairs_7 (i := 28) (r := (51, .aload_n 0, 1)) rfl
theorem dL_arePairs_500 : decode cL_arePairs 500 = .ok (.getfield 10, 3) := sl_row ag_arePairs_7 gl_arePairs_7 (i := 29) (r := (52, .getfield 10, 3)) rfl
theorem dL_arePairs_503 : decode cL_arePairs 503 = .ok (.iload_n 1, 1) := sl_row ag_arePairs_7 gl_arePairs_7 (i := 30) (r := (55, .iload_n 1, 1)) rfl
theorem dL_arePairs_504 : decode cL_arePairs 504 = .ok (.iload 9, 2) := sl_row ag_arePairs_7 gl_arePairs_7 (i := 31) (r := (56, .iload 9, 2)) rfl
theorem dL_arePairs_506 : decode cL_arePairs 506 = .ok (.iconst 1, 1) := sl_row ag_arePairs_7 gl_arePairs_7 (i := 32) (r := (58, .iconst 1, 1)) rfl
theorem dL_arePairs_507 : decode cL_arePairs 507 = .ok (.isub, 1) := sl_row ag_arePairs_7 gl_arePairs_7 (i := 33) (r := (59, .isub, 1)) rfl
theorem dL_arePairs_508 : decode cL_arePairs 508 = .ok (.invokevirtual 163, 3) := sl_row ag_arePairs_7 gl_arePairs_7 (i := 34) (r := (60, .invokevirtual 163, 3)) rfl
theorem dL_arePairs_511 : decode cL_arePairs 511 = .ok (.iconst 1, 1) := sl_row ag_arePairs_7 gl_arePairs_7 (i := 35) (r := (63, .iconst 1, 1)) rfl
def ck_arePairs_8 : ByteArray := .mk #[0xb6, 0x00, 0xa8, 0x2a, 0xb4, 0x00, 0x0a, 0x2a, 0xb4, 0x00, 0x0a, 0x1b, 0x15, 0x09, 0x05, 0x64, 0xb6, 0x00, 0xa3, 0x04, 0xb6, 0x00, 0xa8, 0xa2, 0x00, 0x05, 0x03, 0xac, 0x84, 0x09, 0x01, 0xa7, 0xff, 0x6e, 0x04, 0xac]
set_option maxRecDepth 20000 in
theorem ag_arePairs_8 : ∀ q, agB cL_arePairs ck_arePairs_8 (512 + q) q := agB_of 512 (by decide +kernel)
def tl_arePairs_8 : List (Nat × Instr × Nat) := [(0, .invokevirtual 168, 3), (3, .aload_n 0, 1), (4, .getfield 10, 3), (7, .aload_n 0, 1), (8, .getfield 10, 3), (11, .iload_n 1, 1), (12, .iload 9, 2), (14, .iconst 2, 1), (15, .isub, 1), (16, .invokevirtual 163, 3), (19, .iconst 1, 1), (20, .invokevirtual 168, 3), (23, .if_icmp .ge 5, 3), (26, .iconst 0, 1), (27, .ireturn, 1), (28, .iinc 9 1, 3), (31, .goto (-146), 3), (34, .iconst 1, 1), (35, .ireturn, 1)]
theorem gl_arePairs_8 : tl_arePairs_8.all (fun r => opB ck_arePairs_8 r.1 && decide (decode ck_arePairs_8 r.1 = .ok (r.2.1, r.2.2))) = true := by decide +kernel
theorem dL_arePairs_512 : decode cL_arePairs 512 = .ok (.invokevirtual 168, 3) := sl_row ag_arePairs_8 gl_arePairs_8 (i := 0) (r := (0, .invokevirtual 168, 3)) rfl
theorem dL_arePairs_515 : decode cL_arePairs 515 = .ok (.aload_n 0, 1) := sl_row ag_arePairs_8 gl_arePairs_8 (i := 1) (r := (3, .aload_n 0, 1)) rfl
theorem dL_arePairs_516 : decode cL_arePairs 516 = .ok (.getfield 10, 3) := sl_row ag_arePairs_8 gl_arePairs_8 (i := 2) (r := (4, .getfield 10, 3)) rfl
theorem dL_arePairs_519 : decode cL_arePairs 519 = .ok (.aload_n 0, 1) := sl_row ag_arePairs_8 gl_arePairs_8 (i := 3) (r := (7, .aload_n 0, 1)) rfl
theorem dL_arePairs_520 : decode cL_arePairs 520 = .ok (.getfield 10, 3) := sl_row ag_arePairs_8 gl_arePairs_8 (i := 4) (r := (8, .getfield 10, 3)) rfl
theorem dL_arePairs_523 : decode cL_arePairs 523 = .ok (.iload_n 1, 1) := sl_row ag_arePairs_8 gl_arePairs_8 (i := 5) (r := (11, .iload_n 1, 1)) rfl
theorem dL_arePairs_524 : decode cL_arePairs 524 = .ok (.iload 9, 2) := sl_row ag_arePairs_8 gl_arePairs_8 (i := 6) (r := (12, .iload 9, 2)) rfl
theorem dL_arePairs_526 : decode cL_arePairs 526 = .ok (.iconst 2, 1) := sl_row ag_arePairs_8 gl_arePairs_8 (i := 7) (r := (14, .iconst 2, 1)) rfl
theorem dL_arePairs_527 : decode cL_arePairs 527 = .ok (.isub, 1) := sl_row ag_arePairs_8 gl_arePairs_8 (i := 8) (r := (15, .isub, 1)) rfl
theorem dL_arePairs_528 : decode cL_arePairs 528 = .ok (.invokevirtual 163, 3) := sl_row ag_arePairs_8 gl_arePairs_8 (i := 9) (r := (16, .invokevirtual 163, 3)) rfl
theorem dL_arePairs_531 : decode cL_arePairs 531 = .ok (.iconst 1, 1) := sl_row ag_arePairs_8 gl_arePairs_8 (i := 10) (r := (19, .iconst 1, 1)) rfl
theorem dL_arePairs_532 : decode cL_arePairs 532 = .ok (.invokevirtual 168, 3) := sl_row ag_arePairs_8 gl_arePairs_8 (i := 11) (r := (20, .invokevirtual 168, 3)) rfl
theorem dL_arePairs_535 : decode cL_arePairs 535 = .ok (.if_icmp .ge 5, 3) := sl_row ag_arePairs_8 gl_arePairs_8 (i := 12) (r := (23, .if_icmp .ge 5, 3)) rfl
theorem dL_arePairs_538 : decode cL_arePairs 538 = .ok (.iconst 0, 1) := sl_row ag_arePairs_8 gl_arePairs_8 (i := 13) (r := (26, .iconst 0, 1)) rfl
theorem dL_arePairs_539 : decode cL_arePairs 539 = .ok (.ireturn, 1) := sl_row ag_arePairs_8 gl_arePairs_8 (i := 14) (r := (27, .ireturn, 1)) rfl
theorem dL_arePairs_540 : decode cL_arePairs 540 = .ok (.iinc 9 1, 3) := sl_row ag_arePairs_8 gl_arePairs_8 (i := 15) (r := (28, .iinc 9 1, 3)) rfl
theorem dL_arePairs_543 : decode cL_arePairs 543 = .ok (.goto (-146), 3) := sl_row ag_arePairs_8 gl_arePairs_8 (i := 16) (r := (31, .goto (-146), 3)) rfl
theorem dL_arePairs_546 : decode cL_arePairs 546 = .ok (.iconst 1, 1) := sl_row ag_arePairs_8 gl_arePairs_8 (i := 17) (r := (34, .iconst 1, 1)) rfl
theorem dL_arePairs_547 : decode cL_arePairs 547 = .ok (.ireturn, 1) := sl_row ag_arePairs_8 gl_arePairs_8 (i := 18) (r := (35, .ireturn, 1)) rfl
def ck_areApart_0 : ByteArray := .mk #[0x2a, 0xb4, 0x00, 0x10, 0x03, 0x2e, 0x3c, 0x2a, 0xb4, 0x00, 0x10, 0x2a, 0x2a, 0xb4, 0x00, 0x39, 0xb6, 0x00, 0x36, 0x2e, 0x3d, 0xbb, 0x00, 0x07, 0x59, 0xb7, 0x00, 0x09, 0x4e, 0x03, 0x36, 0x04, 0x15, 0x04, 0x2a, 0xb4, 0x00, 0x39, 0xa2, 0x00, 0x2c, 0x2a, 0xb4, 0x00, 0x10, 0x15, 0x04, 0x2e, 0x1b, 0xa0, 0x00, 0x1b, 0x2d, 0x03, 0x2a, 0xb4, 0x00, 0x14, 0x15, 0x04, 0x2e, 0x2a, 0xb4, 0x00, 0x17, 0x15, 0x04, 0x2e]
set_option maxRecDepth 20000 in
theorem ag_areApart_0 : ∀ q, agB cL_areApart ck_areApart_0 (0 + q) q := agB_of 0 (by decide +kernel)
def tl_areApart_0 : List (Nat × Instr × Nat) := [(0, .aload_n 0, 1), (1, .getfield 16, 3), (4, .iconst 0, 1), (5, .iaload, 1), (6, .istore_n 1, 1), (7, .aload_n 0, 1), (8, .getfield 16, 3), (11, .aload_n 0, 1), (12, .aload_n 0, 1), (13, .getfield 57, 3), (16, .invokevirtual 54, 3), (19, .iaload, 1), (20, .istore_n 2, 1), (21, .new 7, 3), (24, .dup, 1), (25, .invokespecial 9, 3), (28, .astore_n 3, 1), (29, .iconst 0, 1), (30, .istore 4, 2), (32, .iload 4, 2), (34, .aload_n 0, 1), (35, .getfield 57, 3), (38, .if_icmp .ge 44, 3), (41, .aload_n 0, 1), (42, .getfield 16, 3), (45, .iload 4, 2), (47, .iaload, 1), (48, .iload_n 1, 1), (49, .if_icmp .ne 27, 3), (52, .aload_n 3, 1), (53, .iconst 0, 1), (54, .aload_n 0, 1), (55, .getfield 20, 3), (58, .iload 4, 2), (60, .iaload, 1), (61, .aload_n 0, 1), (62, .getfield 23, 3)]
theorem gl_areApart_0 : tl_areApart_0.all (fun r => opB ck_areApart_0 r.1 && decide (decode ck_areApart_0 r.1 = .ok (r.2.1, r.2.2))) = true := by decide +kernel
theorem dL_areApart_0 : decode cL_areApart 0 = .ok (.aload_n 0, 1) := sl_row ag_areApart_0 gl_areApart_0 (i := 0) (r := (0, .aload_n 0, 1)) rfl
theorem dL_areApart_1 : decode cL_areApart 1 = .ok (.getfield 16, 3) := sl_row ag_areApart_0 gl_areApart_0 (i := 1) (r := (1, .getfield 16, 3)) rfl
theorem dL_areApart_4 : decode cL_areApart 4 = .ok (.iconst 0, 1) := sl_row ag_areApart_0 gl_areApart_0 (i := 2) (r := (4, .iconst 0, 1)) rfl
theorem dL_areApart_5 : decode cL_areApart 5 = .ok (.iaload, 1) := sl_row ag_areApart_0 gl_areApart_0 (i := 3) (r := (5, .iaload, 1)) rfl
theorem dL_areApart_6 : decode cL_areApart 6 = .ok (.istore_n 1, 1) := sl_row ag_areApart_0 gl_areApart_0 (i := 4) (r := (6, .istore_n 1, 1)) rfl
theorem dL_areApart_7 : decode cL_areApart 7 = .ok (.aload_n 0, 1) := sl_row ag_areApart_0 gl_areApart_0 (i := 5) (r := (7, .aload_n 0, 1)) rfl
theorem dL_areApart_8 : decode cL_areApart 8 = .ok (.getfield 16, 3) := sl_row ag_areApart_0 gl_areApart_0 (i := 6) (r := (8, .getfield 16, 3)) rfl
theorem dL_areApart_11 : decode cL_areApart 11 = .ok (.aload_n 0, 1) := sl_row ag_areApart_0 gl_areApart_0 (i := 7) (r := (11, .aload_n 0, 1)) rfl
theorem dL_areApart_12 : decode cL_areApart 12 = .ok (.aload_n 0, 1) := sl_row ag_areApart_0 gl_areApart_0 (i := 8) (r := (12, .aload_n 0, 1)) rfl
theorem dL_areApart_13 : decode cL_areApart 13 = .ok (.getfield 57, 3) := sl_row ag_areApart_0 gl_areApart_0 (i := 9) (r := (13, .getfield 57, 3)) rfl
theorem dL_areApart_16 : decode cL_areApart 16 = .ok (.invokevirtual 54, 3) := sl_row ag_areApart_0 gl_areApart_0 (i := 10) (r := (16, .invokevirtual 54, 3)) rfl
theorem dL_areApart_19 : decode cL_areApart 19 = .ok (.iaload, 1) := sl_row ag_areApart_0 gl_areApart_0 (i := 11) (r := (19, .iaload, 1)) rfl
theorem dL_areApart_20 : decode cL_areApart 20 = .ok (.istore_n 2, 1) := sl_row ag_areApart_0 gl_areApart_0 (i := 12) (r := (20, .istore_n 2, 1)) rfl
theorem dL_areApart_21 : decode cL_areApart 21 = .ok (.new 7, 3) := sl_row ag_areApart_0 gl_areApart_0 (i := 13) (r := (21, .new 7, 3)) rfl
theorem dL_areApart_24 : decode cL_areApart 24 = .ok (.dup, 1) := sl_row ag_areApart_0 gl_areApart_0 (i := 14) (r := (24, .dup, 1)) rfl
theorem dL_areApart_25 : decode cL_areApart 25 = .ok (.invokespecial 9, 3) := sl_row ag_areApart_0 gl_areApart_0 (i := 15) (r := (25, .invokespecial 9, 3)) rfl
theorem dL_areApart_28 : decode cL_areApart 28 = .ok (.astore_n 3, 1) := sl_row ag_areApart_0 gl_areApart_0 (i := 16) (r := (28, .astore_n 3, 1)) rfl
theorem dL_areApart_29 : decode cL_areApart 29 = .ok (.iconst 0, 1) := sl_row ag_areApart_0 gl_areApart_0 (i := 17) (r := (29, .iconst 0, 1)) rfl
theorem dL_areApart_30 : decode cL_areApart 30 = .ok (.istore 4, 2) := sl_row ag_areApart_0 gl_areApart_0 (i := 18) (r := (30, .istore 4, 2)) rfl
theorem dL_areApart_32 : decode cL_areApart 32 = .ok (.iload 4, 2) := sl_row ag_areApart_0 gl_areApart_0 (i := 19) (r := (32, .iload 4, 2)) rfl
theorem dL_areApart_34 : decode cL_areApart 34 = .ok (.aload_n 0, 1) := sl_row ag_areApart_0 gl_areApart_0 (i := 20) (r := (34, .aload_n 0, 1)) rfl
theorem dL_areApart_35 : decode cL_areApart 35 = .ok (.getfield 57, 3) := sl_row ag_areApart_0 gl_areApart_0 (i := 21) (r := (35, .getfield 57, 3)) rfl
theorem dL_areApart_38 : decode cL_areApart 38 = .ok (.if_icmp .ge 44, 3) := sl_row ag_areApart_0 gl_areApart_0 (i := 22) (r := (38, .if_icmp .ge 44, 3)) rfl
theorem dL_areApart_41 : decode cL_areApart 41 = .ok (.aload_n 0, 1) := sl_row ag_areApart_0 gl_areApart_0 (i := 23) (r := (41, .aload_n 0, 1)) rfl
theorem dL_areApart_42 : decode cL_areApart 42 = .ok (.getfield 16, 3) := sl_row ag_areApart_0 gl_areApart_0 (i := 24) (r := (42, .getfield 16, 3)) rfl
theorem dL_areApart_45 : decode cL_areApart 45 = .ok (.iload 4, 2) := sl_row ag_areApart_0 gl_areApart_0 (i := 25) (r := (45, .iload 4, 2)) rfl
theorem dL_areApart_47 : decode cL_areApart 47 = .ok (.iaload, 1) := sl_row ag_areApart_0 gl_areApart_0 (i := 26) (r := (47, .iaload, 1)) rfl
theorem dL_areApart_48 : decode cL_areApart 48 = .ok (.iload_n 1, 1) := sl_row ag_areApart_0 gl_areApart_0 (i := 27) (r := (48, .iload_n 1, 1)) rfl
theorem dL_areApart_49 : decode cL_areApart 49 = .ok (.if_icmp .ne 27, 3) := sl_row ag_areApart_0 gl_areApart_0 (i := 28) (r := (49, .if_icmp .ne 27, 3)) rfl
theorem dL_areApart_52 : decode cL_areApart 52 = .ok (.aload_n 3, 1) := sl_row ag_areApart_0 gl_areApart_0 (i := 29) (r := (52, .aload_n 3, 1)) rfl
theorem dL_areApart_53 : decode cL_areApart 53 = .ok (.iconst 0, 1) := sl_row ag_areApart_0 gl_areApart_0 (i := 30) (r := (53, .iconst 0, 1)) rfl
theorem dL_areApart_54 : decode cL_areApart 54 = .ok (.aload_n 0, 1) := sl_row ag_areApart_0 gl_areApart_0 (i := 31) (r := (54, .aload_n 0, 1)) rfl
theorem dL_areApart_55 : decode cL_areApart 55 = .ok (.getfield 20, 3) := sl_row ag_areApart_0 gl_areApart_0 (i := 32) (r := (55, .getfield 20, 3)) rfl
theorem dL_areApart_58 : decode cL_areApart 58 = .ok (.iload 4, 2) := sl_row ag_areApart_0 gl_areApart_0 (i := 33) (r := (58, .iload 4, 2)) rfl
theorem dL_areApart_60 : decode cL_areApart 60 = .ok (.iaload, 1) := sl_row ag_areApart_0 gl_areApart_0 (i := 34) (r := (60, .iaload, 1)) rfl
theorem dL_areApart_61 : decode cL_areApart 61 = .ok (.aload_n 0, 1) := sl_row ag_areApart_0 gl_areApart_0 (i := 35) (r := (61, .aload_n 0, 1)) rfl
theorem dL_areApart_62 : decode cL_areApart 62 = .ok (.getfield 23, 3) := sl_row ag_areApart_0 gl_areApart_0 (i := 36) (r := (62, .getfield 23, 3)) rfl
def ck_areApart_1 : ByteArray := .mk #[0x17, 0x15, 0x04, 0x2e, 0xb6, 0x00, 0x40, 0x9c, 0x00, 0x05, 0x03, 0xac, 0x84, 0x04, 0x01, 0xa7, 0xff, 0xd1, 0x03, 0x36, 0x04, 0x15, 0x04, 0x2a, 0xb4, 0x00, 0x39, 0xa2, 0x00, 0x2e, 0x2a, 0xb4, 0x00, 0x10, 0x15, 0x04, 0x2e, 0x1c, 0xa0, 0x00, 0x1d, 0x2d, 0x04, 0x2a, 0xb4, 0x00, 0x14, 0x15, 0x04, 0x2e, 0x74, 0x2a, 0xb4, 0x00, 0x17, 0x15, 0x04, 0x2e, 0x74, 0xb6, 0x00, 0x40, 0x9c, 0x00, 0x05, 0x03, 0xac, 0x84]
set_option maxRecDepth 20000 in
theorem ag_areApart_1 : ∀ q, agB cL_areApart ck_areApart_1 (64 + q) q := agB_of 64 (by decide +kernel)
def tl_areApart_1 : List (Nat × Instr × Nat) := [(1, .iload 4, 2), (3, .iaload, 1), (4, .invokevirtual 64, 3), (7, .ifCond .ge 5, 3), (10, .iconst 0, 1), (11, .ireturn, 1), (12, .iinc 4 1, 3), (15, .goto (-47), 3), (18, .iconst 0, 1), (19, .istore 4, 2), (21, .iload 4, 2), (23, .aload_n 0, 1), (24, .getfield 57, 3), (27, .if_icmp .ge 46, 3), (30, .aload_n 0, 1), (31, .getfield 16, 3), (34, .iload 4, 2), (36, .iaload, 1), (37, .iload_n 2, 1), (38, .if_icmp .ne 29, 3), (41, .aload_n 3, 1), (42, .iconst 1, 1), (43, .aload_n 0, 1), (44, .getfield 20, 3), (47, .iload 4, 2), (49, .iaload, 1), (50, .ineg, 1), (51, .aload_n 0, 1), (52, .getfield 23, 3), (55, .iload 4, 2), (57, .iaload, 1), (58, .ineg, 1), (59, .invokevirtual 64, 3), (62, .ifCond .ge 5, 3)]
theorem gl_areApart_1 : tl_areApart_1.all (fun r => opB ck_areApart_1 r.1 && decide (decode ck_areApart_1 r.1 = .ok (r.2.1, r.2.2))) = true := by decide +kernel
theorem dL_areApart_65 : decode cL_areApart 65 = .ok (.iload 4, 2) := sl_row ag_areApart_1 gl_areApart_1 (i := 0) (r := (1, .iload 4, 2)) rfl
theorem dL_areApart_67 : decode cL_areApart 67 = .ok (.iaload, 1) := sl_row ag_areApart_1 gl_areApart_1 (i := 1) (r := (3, .iaload, 1)) rfl
theorem dL_areApart_68 : decode cL_areApart 68 = .ok (.invokevirtual 64, 3) := sl_row ag_areApart_1 gl_areApart_1 (i := 2) (r := (4, .invokevirtual 64, 3)) rfl
theorem dL_areApart_71 : decode cL_areApart 71 = .ok (.ifCond .ge 5, 3) := sl_row ag_areApart_1 gl_areApart_1 (i := 3) (r := (7, .ifCond .ge 5, 3)) rfl
theorem dL_areApart_74 : decode cL_areApart 74 = .ok (.iconst 0, 1) := sl_row ag_areApart_1 gl_areApart_1 (i := 4) (r := (10, .iconst 0, 1)) rfl
theorem dL_areApart_75 : decode cL_areApart 75 = .ok (.ireturn, 1) := sl_row ag_areApart_1 gl_areApart_1 (i := 5) (r := (11, .ireturn, 1)) rfl
theorem dL_areApart_76 : decode cL_areApart 76 = .ok (.iinc 4 1, 3) := sl_row ag_areApart_1 gl_areApart_1 (i := 6) (r := (12, .iinc 4 1, 3)) rfl
theorem dL_areApart_79 : decode cL_areApart 79 = .ok (.goto (-47), 3) := sl_row ag_areApart_1 gl_areApart_1 (i := 7) (r := (15, .goto (-47), 3)) rfl
theorem dL_areApart_82 : decode cL_areApart 82 = .ok (.iconst 0, 1) := sl_row ag_areApart_1 gl_areApart_1 (i := 8) (r := (18, .iconst 0, 1)) rfl
theorem dL_areApart_83 : decode cL_areApart 83 = .ok (.istore 4, 2) := sl_row ag_areApart_1 gl_areApart_1 (i := 9) (r := (19, .istore 4, 2)) rfl
theorem dL_areApart_85 : decode cL_areApart 85 = .ok (.iload 4, 2) := sl_row ag_areApart_1 gl_areApart_1 (i := 10) (r := (21, .iload 4, 2)) rfl
theorem dL_areApart_87 : decode cL_areApart 87 = .ok (.aload_n 0, 1) := sl_row ag_areApart_1 gl_areApart_1 (i := 11) (r := (23, .aload_n 0, 1)) rfl
theorem dL_areApart_88 : decode cL_areApart 88 = .ok (.getfield 57, 3) := sl_row ag_areApart_1 gl_areApart_1 (i := 12) (r := (24, .getfield 57, 3)) rfl
theorem dL_areApart_91 : decode cL_areApart 91 = .ok (.if_icmp .ge 46, 3) := sl_row ag_areApart_1 gl_areApart_1 (i := 13) (r := (27, .if_icmp .ge 46, 3)) rfl
theorem dL_areApart_94 : decode cL_areApart 94 = .ok (.aload_n 0, 1) := sl_row ag_areApart_1 gl_areApart_1 (i := 14) (r := (30, .aload_n 0, 1)) rfl
theorem dL_areApart_95 : decode cL_areApart 95 = .ok (.getfield 16, 3) := sl_row ag_areApart_1 gl_areApart_1 (i := 15) (r := (31, .getfield 16, 3)) rfl
theorem dL_areApart_98 : decode cL_areApart 98 = .ok (.iload 4, 2) := sl_row ag_areApart_1 gl_areApart_1 (i := 16) (r := (34, .iload 4, 2)) rfl
theorem dL_areApart_100 : decode cL_areApart 100 = .ok (.iaload, 1) := sl_row ag_areApart_1 gl_areApart_1 (i := 17) (r := (36, .iaload, 1)) rfl
theorem dL_areApart_101 : decode cL_areApart 101 = .ok (.iload_n 2, 1) := sl_row ag_areApart_1 gl_areApart_1 (i := 18) (r := (37, .iload_n 2, 1)) rfl
theorem dL_areApart_102 : decode cL_areApart 102 = .ok (.if_icmp .ne 29, 3) := sl_row ag_areApart_1 gl_areApart_1 (i := 19) (r := (38, .if_icmp .ne 29, 3)) rfl
theorem dL_areApart_105 : decode cL_areApart 105 = .ok (.aload_n 3, 1) := sl_row ag_areApart_1 gl_areApart_1 (i := 20) (r := (41, .aload_n 3, 1)) rfl
theorem dL_areApart_106 : decode cL_areApart 106 = .ok (.iconst 1, 1) := sl_row ag_areApart_1 gl_areApart_1 (i := 21) (r := (42, .iconst 1, 1)) rfl
theorem dL_areApart_107 : decode cL_areApart 107 = .ok (.aload_n 0, 1) := sl_row ag_areApart_1 gl_areApart_1 (i := 22) (r := (43, .aload_n 0, 1)) rfl
theorem dL_areApart_108 : decode cL_areApart 108 = .ok (.getfield 20, 3) := sl_row ag_areApart_1 gl_areApart_1 (i := 23) (r := (44, .getfield 20, 3)) rfl
theorem dL_areApart_111 : decode cL_areApart 111 = .ok (.iload 4, 2) := sl_row ag_areApart_1 gl_areApart_1 (i := 24) (r := (47, .iload 4, 2)) rfl
theorem dL_areApart_113 : decode cL_areApart 113 = .ok (.iaload, 1) := sl_row ag_areApart_1 gl_areApart_1 (i := 25) (r := (49, .iaload, 1)) rfl
theorem dL_areApart_114 : decode cL_areApart 114 = .ok (.ineg, 1) := sl_row ag_areApart_1 gl_areApart_1 (i := 26) (r := (50, .ineg, 1)) rfl
theorem dL_areApart_115 : decode cL_areApart 115 = .ok (.aload_n 0, 1) := sl_row ag_areApart_1 gl_areApart_1 (i := 27) (r := (51, .aload_n 0, 1)) rfl
theorem dL_areApart_116 : decode cL_areApart 116 = .ok (.getfield 23, 3) := sl_row ag_areApart_1 gl_areApart_1 (i := 28) (r := (52, .getfield 23, 3)) rfl
theorem dL_areApart_119 : decode cL_areApart 119 = .ok (.iload 4, 2) := sl_row ag_areApart_1 gl_areApart_1 (i := 29) (r := (55, .iload 4, 2)) rfl
theorem dL_areApart_121 : decode cL_areApart 121 = .ok (.iaload, 1) := sl_row ag_areApart_1 gl_areApart_1 (i := 30) (r := (57, .iaload, 1)) rfl
theorem dL_areApart_122 : decode cL_areApart 122 = .ok (.ineg, 1) := sl_row ag_areApart_1 gl_areApart_1 (i := 31) (r := (58, .ineg, 1)) rfl
theorem dL_areApart_123 : decode cL_areApart 123 = .ok (.invokevirtual 64, 3) := sl_row ag_areApart_1 gl_areApart_1 (i := 32) (r := (59, .invokevirtual 64, 3)) rfl
theorem dL_areApart_126 : decode cL_areApart 126 = .ok (.ifCond .ge 5, 3) := sl_row ag_areApart_1 gl_areApart_1 (i := 33) (r := (62, .ifCond .ge 5, 3)) rfl
def ck_areApart_2 : ByteArray := .mk #[0x05, 0x03, 0xac, 0x84, 0x04, 0x01, 0xa7, 0xff, 0xcf, 0x2d, 0x03, 0x04, 0xb6, 0x00, 0x88, 0x9e, 0x00, 0x36, 0x2a, 0xb4, 0x00, 0x0a, 0x1b, 0x1c, 0xb6, 0x00, 0xab, 0x2d, 0x03, 0x03, 0xb6, 0x00, 0x55, 0x9c, 0x00, 0x07, 0x04, 0xa7, 0x00, 0x04, 0x03, 0xa0, 0x00, 0x1c, 0x2a, 0xb4, 0x00, 0x0a, 0x1c, 0x1b, 0xb6, 0x00, 0xab, 0x2a, 0xb4, 0x00, 0x0a, 0x1b, 0x1c, 0xb6, 0x00, 0xab, 0xa0, 0x00, 0x07, 0x04, 0xa7, 0x00]
set_option maxRecDepth 20000 in
theorem ag_areApart_2 : ∀ q, agB cL_areApart ck_areApart_2 (128 + q) q := agB_of 128 (by decide +kernel)
def tl_areApart_2 : List (Nat × Instr × Nat) := [(1, .iconst 0, 1), (2, .ireturn, 1), (3, .iinc 4 1, 3), (6, .goto (-49), 3), (9, .aload_n 3, 1), (10, .iconst 0, 1), (11, .iconst 1, 1), (12, .invokevirtual 136, 3), (15, .ifCond .le 54, 3), (18, .aload_n 0, 1), (19, .getfield 10, 3), (22, .iload_n 1, 1), (23, .iload_n 2, 1), (24, .invokevirtual 171, 3), (27, .aload_n 3, 1), (28, .iconst 0, 1), (29, .iconst 0, 1), (30, .invokevirtual 85, 3), (33, .ifCond .ge 7, 3), (36, .iconst 1, 1), (37, .goto 4, 3), (40, .iconst 0, 1), (41, .if_icmp .ne 28, 3), (44, .aload_n 0, 1), (45, .getfield 10, 3), (48, .iload_n 2, 1), (49, .iload_n 1, 1), (50, .invokevirtual 171, 3), (53, .aload_n 0, 1), (54, .getfield 10, 3), (57, .iload_n 1, 1), (58, .iload_n 2, 1), (59, .invokevirtual 171, 3), (62, .if_icmp .ne 7, 3)]
theorem gl_areApart_2 : tl_areApart_2.all (fun r => opB ck_areApart_2 r.1 && decide (decode ck_areApart_2 r.1 = .ok (r.2.1, r.2.2))) = true := by decide +kernel
theorem dL_areApart_129 : decode cL_areApart 129 = .ok (.iconst 0, 1) := sl_row ag_areApart_2 gl_areApart_2 (i := 0) (r := (1, .iconst 0, 1)) rfl
theorem dL_areApart_130 : decode cL_areApart 130 = .ok (.ireturn, 1) := sl_row ag_areApart_2 gl_areApart_2 (i := 1) (r := (2, .ireturn, 1)) rfl
theorem dL_areApart_131 : decode cL_areApart 131 = .ok (.iinc 4 1, 3) := sl_row ag_areApart_2 gl_areApart_2 (i := 2) (r := (3, .iinc 4 1, 3)) rfl
theorem dL_areApart_134 : decode cL_areApart 134 = .ok (.goto (-49), 3) := sl_row ag_areApart_2 gl_areApart_2 (i := 3) (r := (6, .goto (-49), 3)) rfl
theorem dL_areApart_137 : decode cL_areApart 137 = .ok (.aload_n 3, 1) := sl_row ag_areApart_2 gl_areApart_2 (i := 4) (r := (9, .aload_n 3, 1)) rfl
theorem dL_areApart_138 : decode cL_areApart 138 = .ok (.iconst 0, 1) := sl_row ag_areApart_2 gl_areApart_2 (i := 5) (r := (10, .iconst 0, 1)) rfl
theorem dL_areApart_139 : decode cL_areApart 139 = .ok (.iconst 1, 1) := sl_row ag_areApart_2 gl_areApart_2 (i := 6) (r := (11, .iconst 1, 1)) rfl
theorem dL_areApart_140 : decode cL_areApart 140 = .ok (.invokevirtual 136, 3) := sl_row ag_areApart_2 gl_areApart_2 (i := 7) (r := (12, .invokevirtual 136, 3)) rfl
theorem dL_areApart_143 : decode cL_areApart 143 = .ok (.ifCond .le 54, 3) := sl_row ag_areApart_2 gl_areApart_2 (i := 8) (r := (15, .ifCond .le 54, 3)) rfl
theorem dL_areApart_146 : decode cL_areApart 146 = .ok (.aload_n 0, 1) := sl_row ag_areApart_2 gl_areApart_2 (i := 9) (r := (18, .aload_n 0, 1)) rfl
theorem dL_areApart_147 : decode cL_areApart 147 = .ok (.getfield 10, 3) := sl_row ag_areApart_2 gl_areApart_2 (i := 10) (r := (19, .getfield 10, 3)) rfl
theorem dL_areApart_150 : decode cL_areApart 150 = .ok (.iload_n 1, 1) := sl_row ag_areApart_2 gl_areApart_2 (i := 11) (r := (22, .iload_n 1, 1)) rfl
theorem dL_areApart_151 : decode cL_areApart 151 = .ok (.iload_n 2, 1) := sl_row ag_areApart_2 gl_areApart_2 (i := 12) (r := (23, .iload_n 2, 1)) rfl
theorem dL_areApart_152 : decode cL_areApart 152 = .ok (.invokevirtual 171, 3) := sl_row ag_areApart_2 gl_areApart_2 (i := 13) (r := (24, .invokevirtual 171, 3)) rfl
theorem dL_areApart_155 : decode cL_areApart 155 = .ok (.aload_n 3, 1) := sl_row ag_areApart_2 gl_areApart_2 (i := 14) (r := (27, .aload_n 3, 1)) rfl
theorem dL_areApart_156 : decode cL_areApart 156 = .ok (.iconst 0, 1) := sl_row ag_areApart_2 gl_areApart_2 (i := 15) (r := (28, .iconst 0, 1)) rfl
theorem dL_areApart_157 : decode cL_areApart 157 = .ok (.iconst 0, 1) := sl_row ag_areApart_2 gl_areApart_2 (i := 16) (r := (29, .iconst 0, 1)) rfl
theorem dL_areApart_158 : decode cL_areApart 158 = .ok (.invokevirtual 85, 3) := sl_row ag_areApart_2 gl_areApart_2 (i := 17) (r := (30, .invokevirtual 85, 3)) rfl
theorem dL_areApart_161 : decode cL_areApart 161 = .ok (.ifCond .ge 7, 3) := sl_row ag_areApart_2 gl_areApart_2 (i := 18) (r := (33, .ifCond .ge 7, 3)) rfl
theorem dL_areApart_164 : decode cL_areApart 164 = .ok (.iconst 1, 1) := sl_row ag_areApart_2 gl_areApart_2 (i := 19) (r := (36, .iconst 1, 1)) rfl
theorem dL_areApart_165 : decode cL_areApart 165 = .ok (.goto 4, 3) := sl_row ag_areApart_2 gl_areApart_2 (i := 20) (r := (37, .goto 4, 3)) rfl
theorem dL_areApart_168 : decode cL_areApart 168 = .ok (.iconst 0, 1) := sl_row ag_areApart_2 gl_areApart_2 (i := 21) (r := (40, .iconst 0, 1)) rfl
theorem dL_areApart_169 : decode cL_areApart 169 = .ok (.if_icmp .ne 28, 3) := sl_row ag_areApart_2 gl_areApart_2 (i := 22) (r := (41, .if_icmp .ne 28, 3)) rfl
theorem dL_areApart_172 : decode cL_areApart 172 = .ok (.aload_n 0, 1) := sl_row ag_areApart_2 gl_areApart_2 (i := 23) (r := (44, .aload_n 0, 1)) rfl
theorem dL_areApart_173 : decode cL_areApart 173 = .ok (.getfield 10, 3) := sl_row ag_areApart_2 gl_areApart_2 (i := 24) (r := (45, .getfield 10, 3)) rfl
theorem dL_areApart_176 : decode cL_areApart 176 = .ok (.iload_n 2, 1) := sl_row ag_areApart_2 gl_areApart_2 (i := 25) (r := (48, .iload_n 2, 1)) rfl
theorem dL_areApart_177 : decode cL_areApart 177 = .ok (.iload_n 1, 1) := sl_row ag_areApart_2 gl_areApart_2 (i := 26) (r := (49, .iload_n 1, 1)) rfl
theorem dL_areApart_178 : decode cL_areApart 178 = .ok (.invokevirtual 171, 3) := sl_row ag_areApart_2 gl_areApart_2 (i := 27) (r := (50, .invokevirtual 171, 3)) rfl
theorem dL_areApart_181 : decode cL_areApart 181 = .ok (.aload_n 0, 1) := sl_row ag_areApart_2 gl_areApart_2 (i := 28) (r := (53, .aload_n 0, 1)) rfl
theorem dL_areApart_182 : decode cL_areApart 182 = .ok (.getfield 10, 3) := sl_row ag_areApart_2 gl_areApart_2 (i := 29) (r := (54, .getfield 10, 3)) rfl
theorem dL_areApart_185 : decode cL_areApart 185 = .ok (.iload_n 1, 1) := sl_row ag_areApart_2 gl_areApart_2 (i := 30) (r := (57, .iload_n 1, 1)) rfl
theorem dL_areApart_186 : decode cL_areApart 186 = .ok (.iload_n 2, 1) := sl_row ag_areApart_2 gl_areApart_2 (i := 31) (r := (58, .iload_n 2, 1)) rfl
theorem dL_areApart_187 : decode cL_areApart 187 = .ok (.invokevirtual 171, 3) := sl_row ag_areApart_2 gl_areApart_2 (i := 32) (r := (59, .invokevirtual 171, 3)) rfl
theorem dL_areApart_190 : decode cL_areApart 190 = .ok (.if_icmp .ne 7, 3) := sl_row ag_areApart_2 gl_areApart_2 (i := 33) (r := (62, .if_icmp .ne 7, 3)) rfl
def ck_areApart_3 : ByteArray := .mk #[0x07, 0x04, 0xa7, 0x00, 0x04, 0x03, 0xac]
set_option maxRecDepth 20000 in
theorem ag_areApart_3 : ∀ q, agB cL_areApart ck_areApart_3 (192 + q) q := agB_of 192 (by decide +kernel)
def tl_areApart_3 : List (Nat × Instr × Nat) := [(1, .iconst 1, 1), (2, .goto 4, 3), (5, .iconst 0, 1), (6, .ireturn, 1)]
theorem gl_areApart_3 : tl_areApart_3.all (fun r => opB ck_areApart_3 r.1 && decide (decode ck_areApart_3 r.1 = .ok (r.2.1, r.2.2))) = true := by decide +kernel
theorem dL_areApart_193 : decode cL_areApart 193 = .ok (.iconst 1, 1) := sl_row ag_areApart_3 gl_areApart_3 (i := 0) (r := (1, .iconst 1, 1)) rfl
theorem dL_areApart_194 : decode cL_areApart 194 = .ok (.goto 4, 3) := sl_row ag_areApart_3 gl_areApart_3 (i := 1) (r := (2, .goto 4, 3)) rfl
theorem dL_areApart_197 : decode cL_areApart 197 = .ok (.iconst 0, 1) := sl_row ag_areApart_3 gl_areApart_3 (i := 2) (r := (5, .iconst 0, 1)) rfl
theorem dL_areApart_198 : decode cL_areApart 198 = .ok (.ireturn, 1) := sl_row ag_areApart_3 gl_areApart_3 (i := 3) (r := (6, .ireturn, 1)) rfl
def ck_isDrawn_0 : ByteArray := .mk #[0x2a, 0x06, 0x2a, 0x10, 0x08, 0xb6, 0x00, 0x36, 0x60, 0xb5, 0x00, 0xae, 0x2a, 0x07, 0xb6, 0x00, 0x36, 0x9a, 0x00, 0x07, 0x04, 0xa7, 0x00, 0x04, 0x03, 0x3d, 0x05, 0x2a, 0xb6, 0x00, 0x3c, 0x05, 0x6c, 0x60, 0x3e, 0x2a, 0xb4, 0x00, 0x0a, 0x1b, 0xb6, 0x00, 0xb1, 0x36, 0x04, 0x03, 0x36, 0x05, 0x15, 0x05, 0x2a, 0xb4, 0x00, 0xae, 0xa2, 0x01, 0x04, 0x10, 0x10, 0x15, 0x05, 0x68, 0x2a, 0xb4, 0x00, 0xae, 0x6c, 0x36]
set_option maxRecDepth 20000 in
theorem ag_isDrawn_0 : ∀ q, agB cL_isDrawn ck_isDrawn_0 (0 + q) q := agB_of 0 (by decide +kernel)
def tl_isDrawn_0 : List (Nat × Instr × Nat) := [(0, .aload_n 0, 1), (1, .iconst 3, 1), (2, .aload_n 0, 1), (3, .bipush 8, 2), (5, .invokevirtual 54, 3), (8, .iadd, 1), (9, .putfield 174, 3), (12, .aload_n 0, 1), (13, .iconst 4, 1), (14, .invokevirtual 54, 3), (17, .ifCond .ne 7, 3), (20, .iconst 1, 1), (21, .goto 4, 3), (24, .iconst 0, 1), (25, .istore_n 2, 1), (26, .iconst 2, 1), (27, .aload_n 0, 1), (28, .invokevirtual 60, 3), (31, .iconst 2, 1), (32, .idiv, 1), (33, .iadd, 1), (34, .istore_n 3, 1), (35, .aload_n 0, 1), (36, .getfield 10, 3), (39, .iload_n 1, 1), (40, .invokevirtual 177, 3), (43, .istore 4, 2), (45, .iconst 0, 1), (46, .istore 5, 2), (48, .iload 5, 2), (50, .aload_n 0, 1), (51, .getfield 174, 3), (54, .if_icmp .ge 260, 3), (57, .bipush 16, 2), (59, .iload 5, 2), (61, .imul, 1), (62, .aload_n 0, 1), (63, .getfield 174, 3)]
theorem gl_isDrawn_0 : tl_isDrawn_0.all (fun r => opB ck_isDrawn_0 r.1 && decide (decode ck_isDrawn_0 r.1 = .ok (r.2.1, r.2.2))) = true := by decide +kernel
theorem dL_isDrawn_0 : decode cL_isDrawn 0 = .ok (.aload_n 0, 1) := sl_row ag_isDrawn_0 gl_isDrawn_0 (i := 0) (r := (0, .aload_n 0, 1)) rfl
theorem dL_isDrawn_1 : decode cL_isDrawn 1 = .ok (.iconst 3, 1) := sl_row ag_isDrawn_0 gl_isDrawn_0 (i := 1) (r := (1, .iconst 3, 1)) rfl
theorem dL_isDrawn_2 : decode cL_isDrawn 2 = .ok (.aload_n 0, 1) := sl_row ag_isDrawn_0 gl_isDrawn_0 (i := 2) (r := (2, .aload_n 0, 1)) rfl
theorem dL_isDrawn_3 : decode cL_isDrawn 3 = .ok (.bipush 8, 2) := sl_row ag_isDrawn_0 gl_isDrawn_0 (i := 3) (r := (3, .bipush 8, 2)) rfl
theorem dL_isDrawn_5 : decode cL_isDrawn 5 = .ok (.invokevirtual 54, 3) := sl_row ag_isDrawn_0 gl_isDrawn_0 (i := 4) (r := (5, .invokevirtual 54, 3)) rfl
theorem dL_isDrawn_8 : decode cL_isDrawn 8 = .ok (.iadd, 1) := sl_row ag_isDrawn_0 gl_isDrawn_0 (i := 5) (r := (8, .iadd, 1)) rfl
theorem dL_isDrawn_9 : decode cL_isDrawn 9 = .ok (.putfield 174, 3) := sl_row ag_isDrawn_0 gl_isDrawn_0 (i := 6) (r := (9, .putfield 174, 3)) rfl
theorem dL_isDrawn_12 : decode cL_isDrawn 12 = .ok (.aload_n 0, 1) := sl_row ag_isDrawn_0 gl_isDrawn_0 (i := 7) (r := (12, .aload_n 0, 1)) rfl
theorem dL_isDrawn_13 : decode cL_isDrawn 13 = .ok (.iconst 4, 1) := sl_row ag_isDrawn_0 gl_isDrawn_0 (i := 8) (r := (13, .iconst 4, 1)) rfl
theorem dL_isDrawn_14 : decode cL_isDrawn 14 = .ok (.invokevirtual 54, 3) := sl_row ag_isDrawn_0 gl_isDrawn_0 (i := 9) (r := (14, .invokevirtual 54, 3)) rfl
theorem dL_isDrawn_17 : decode cL_isDrawn 17 = .ok (.ifCond .ne 7, 3) := sl_row ag_isDrawn_0 gl_isDrawn_0 (i := 10) (r := (17, .ifCond .ne 7, 3)) rfl
theorem dL_isDrawn_20 : decode cL_isDrawn 20 = .ok (.iconst 1, 1) := sl_row ag_isDrawn_0 gl_isDrawn_0 (i := 11) (r := (20, .iconst 1, 1)) rfl
theorem dL_isDrawn_21 : decode cL_isDrawn 21 = .ok (.goto 4, 3) := sl_row ag_isDrawn_0 gl_isDrawn_0 (i := 12) (r := (21, .goto 4, 3)) rfl
theorem dL_isDrawn_24 : decode cL_isDrawn 24 = .ok (.iconst 0, 1) := sl_row ag_isDrawn_0 gl_isDrawn_0 (i := 13) (r := (24, .iconst 0, 1)) rfl
theorem dL_isDrawn_25 : decode cL_isDrawn 25 = .ok (.istore_n 2, 1) := sl_row ag_isDrawn_0 gl_isDrawn_0 (i := 14) (r := (25, .istore_n 2, 1)) rfl
theorem dL_isDrawn_26 : decode cL_isDrawn 26 = .ok (.iconst 2, 1) := sl_row ag_isDrawn_0 gl_isDrawn_0 (i := 15) (r := (26, .iconst 2, 1)) rfl
theorem dL_isDrawn_27 : decode cL_isDrawn 27 = .ok (.aload_n 0, 1) := sl_row ag_isDrawn_0 gl_isDrawn_0 (i := 16) (r := (27, .aload_n 0, 1)) rfl
theorem dL_isDrawn_28 : decode cL_isDrawn 28 = .ok (.invokevirtual 60, 3) := sl_row ag_isDrawn_0 gl_isDrawn_0 (i := 17) (r := (28, .invokevirtual 60, 3)) rfl
theorem dL_isDrawn_31 : decode cL_isDrawn 31 = .ok (.iconst 2, 1) := sl_row ag_isDrawn_0 gl_isDrawn_0 (i := 18) (r := (31, .iconst 2, 1)) rfl
theorem dL_isDrawn_32 : decode cL_isDrawn 32 = .ok (.idiv, 1) := sl_row ag_isDrawn_0 gl_isDrawn_0 (i := 19) (r := (32, .idiv, 1)) rfl
theorem dL_isDrawn_33 : decode cL_isDrawn 33 = .ok (.iadd, 1) := sl_row ag_isDrawn_0 gl_isDrawn_0 (i := 20) (r := (33, .iadd, 1)) rfl
theorem dL_isDrawn_34 : decode cL_isDrawn 34 = .ok (.istore_n 3, 1) := sl_row ag_isDrawn_0 gl_isDrawn_0 (i := 21) (r := (34, .istore_n 3, 1)) rfl
theorem dL_isDrawn_35 : decode cL_isDrawn 35 = .ok (.aload_n 0, 1) := sl_row ag_isDrawn_0 gl_isDrawn_0 (i := 22) (r := (35, .aload_n 0, 1)) rfl
theorem dL_isDrawn_36 : decode cL_isDrawn 36 = .ok (.getfield 10, 3) := sl_row ag_isDrawn_0 gl_isDrawn_0 (i := 23) (r := (36, .getfield 10, 3)) rfl
theorem dL_isDrawn_39 : decode cL_isDrawn 39 = .ok (.iload_n 1, 1) := sl_row ag_isDrawn_0 gl_isDrawn_0 (i := 24) (r := (39, .iload_n 1, 1)) rfl
theorem dL_isDrawn_40 : decode cL_isDrawn 40 = .ok (.invokevirtual 177, 3) := sl_row ag_isDrawn_0 gl_isDrawn_0 (i := 25) (r := (40, .invokevirtual 177, 3)) rfl
theorem dL_isDrawn_43 : decode cL_isDrawn 43 = .ok (.istore 4, 2) := sl_row ag_isDrawn_0 gl_isDrawn_0 (i := 26) (r := (43, .istore 4, 2)) rfl
theorem dL_isDrawn_45 : decode cL_isDrawn 45 = .ok (.iconst 0, 1) := sl_row ag_isDrawn_0 gl_isDrawn_0 (i := 27) (r := (45, .iconst 0, 1)) rfl
theorem dL_isDrawn_46 : decode cL_isDrawn 46 = .ok (.istore 5, 2) := sl_row ag_isDrawn_0 gl_isDrawn_0 (i := 28) (r := (46, .istore 5, 2)) rfl
theorem dL_isDrawn_48 : decode cL_isDrawn 48 = .ok (.iload 5, 2) := sl_row ag_isDrawn_0 gl_isDrawn_0 (i := 29) (r := (48, .iload 5, 2)) rfl
theorem dL_isDrawn_50 : decode cL_isDrawn 50 = .ok (.aload_n 0, 1) := sl_row ag_isDrawn_0 gl_isDrawn_0 (i := 30) (r := (50, .aload_n 0, 1)) rfl
theorem dL_isDrawn_51 : decode cL_isDrawn 51 = .ok (.getfield 174, 3) := sl_row ag_isDrawn_0 gl_isDrawn_0 (i := 31) (r := (51, .getfield 174, 3)) rfl
theorem dL_isDrawn_54 : decode cL_isDrawn 54 = .ok (.if_icmp .ge 260, 3) := sl_row ag_isDrawn_0 gl_isDrawn_0 (i := 32) (r := (54, .if_icmp .ge 260, 3)) rfl
theorem dL_isDrawn_57 : decode cL_isDrawn 57 = .ok (.bipush 16, 2) := sl_row ag_isDrawn_0 gl_isDrawn_0 (i := 33) (r := (57, .bipush 16, 2)) rfl
theorem dL_isDrawn_59 : decode cL_isDrawn 59 = .ok (.iload 5, 2) := sl_row ag_isDrawn_0 gl_isDrawn_0 (i := 34) (r := (59, .iload 5, 2)) rfl
theorem dL_isDrawn_61 : decode cL_isDrawn 61 = .ok (.imul, 1) := sl_row ag_isDrawn_0 gl_isDrawn_0 (i := 35) (r := (61, .imul, 1)) rfl
theorem dL_isDrawn_62 : decode cL_isDrawn 62 = .ok (.aload_n 0, 1) := sl_row ag_isDrawn_0 gl_isDrawn_0 (i := 36) (r := (62, .aload_n 0, 1)) rfl
theorem dL_isDrawn_63 : decode cL_isDrawn 63 = .ok (.getfield 174, 3) := sl_row ag_isDrawn_0 gl_isDrawn_0 (i := 37) (r := (63, .getfield 174, 3)) rfl
def ck_isDrawn_1 : ByteArray := .mk #[0x00, 0xae, 0x6c, 0x36, 0x06, 0x04, 0x2a, 0x1d, 0xb6, 0x00, 0x36, 0x60, 0x36, 0x07, 0x15, 0x06, 0x05, 0xa1, 0x00, 0x0a, 0x15, 0x06, 0x10, 0x0e, 0xa4, 0x00, 0x07, 0x05, 0xa7, 0x00, 0x39, 0x15, 0x06, 0x07, 0xa1, 0x00, 0x0a, 0x15, 0x06, 0x10, 0x0c, 0xa4, 0x00, 0x07, 0x04, 0xa7, 0x00, 0x28, 0x15, 0x06, 0x07, 0x9f, 0x00, 0x0a, 0x15, 0x06, 0x10, 0x0c, 0xa0, 0x00, 0x07, 0x03, 0xa7, 0x00, 0x17, 0x15, 0x06, 0x10]
set_option maxRecDepth 20000 in
theorem ag_isDrawn_1 : ∀ q, agB cL_isDrawn ck_isDrawn_1 (64 + q) q := agB_of 64 (by decide +kernel)
def tl_isDrawn_1 : List (Nat × Instr × Nat) := [(2, .idiv, 1), (3, .istore 6, 2), (5, .iconst 1, 1), (6, .aload_n 0, 1), (7, .iload_n 3, 1), (8, .invokevirtual 54, 3), (11, .iadd, 1), (12, .istore 7, 2), (14, .iload 6, 2), (16, .iconst 2, 1), (17, .if_icmp .lt 10, 3), (20, .iload 6, 2), (22, .bipush 14, 2), (24, .if_icmp .le 7, 3), (27, .iconst 2, 1), (28, .goto 57, 3), (31, .iload 6, 2), (33, .iconst 4, 1), (34, .if_icmp .lt 10, 3), (37, .iload 6, 2), (39, .bipush 12, 2), (41, .if_icmp .le 7, 3), (44, .iconst 1, 1), (45, .goto 40, 3), (48, .iload 6, 2), (50, .iconst 4, 1), (51, .if_icmp .eq 10, 3), (54, .iload 6, 2), (56, .bipush 12, 2), (58, .if_icmp .ne 7, 3), (61, .iconst 0, 1), (62, .goto 23, 3)]
theorem gl_isDrawn_1 : tl_isDrawn_1.all (fun r => opB ck_isDrawn_1 r.1 && decide (decode ck_isDrawn_1 r.1 = .ok (r.2.1, r.2.2))) = true := by decide +kernel
theorem dL_isDrawn_66 : decode cL_isDrawn 66 = .ok (.idiv, 1) := sl_row ag_isDrawn_1 gl_isDrawn_1 (i := 0) (r := (2, .idiv, 1)) rfl
theorem dL_isDrawn_67 : decode cL_isDrawn 67 = .ok (.istore 6, 2) := sl_row ag_isDrawn_1 gl_isDrawn_1 (i := 1) (r := (3, .istore 6, 2)) rfl
theorem dL_isDrawn_69 : decode cL_isDrawn 69 = .ok (.iconst 1, 1) := sl_row ag_isDrawn_1 gl_isDrawn_1 (i := 2) (r := (5, .iconst 1, 1)) rfl
theorem dL_isDrawn_70 : decode cL_isDrawn 70 = .ok (.aload_n 0, 1) := sl_row ag_isDrawn_1 gl_isDrawn_1 (i := 3) (r := (6, .aload_n 0, 1)) rfl
theorem dL_isDrawn_71 : decode cL_isDrawn 71 = .ok (.iload_n 3, 1) := sl_row ag_isDrawn_1 gl_isDrawn_1 (i := 4) (r := (7, .iload_n 3, 1)) rfl
theorem dL_isDrawn_72 : decode cL_isDrawn 72 = .ok (.invokevirtual 54, 3) := sl_row ag_isDrawn_1 gl_isDrawn_1 (i := 5) (r := (8, .invokevirtual 54, 3)) rfl
theorem dL_isDrawn_75 : decode cL_isDrawn 75 = .ok (.iadd, 1) := sl_row ag_isDrawn_1 gl_isDrawn_1 (i := 6) (r := (11, .iadd, 1)) rfl
theorem dL_isDrawn_76 : decode cL_isDrawn 76 = .ok (.istore 7, 2) := sl_row ag_isDrawn_1 gl_isDrawn_1 (i := 7) (r := (12, .istore 7, 2)) rfl
theorem dL_isDrawn_78 : decode cL_isDrawn 78 = .ok (.iload 6, 2) := sl_row ag_isDrawn_1 gl_isDrawn_1 (i := 8) (r := (14, .iload 6, 2)) rfl
theorem dL_isDrawn_80 : decode cL_isDrawn 80 = .ok (.iconst 2, 1) := sl_row ag_isDrawn_1 gl_isDrawn_1 (i := 9) (r := (16, .iconst 2, 1)) rfl
theorem dL_isDrawn_81 : decode cL_isDrawn 81 = .ok (.if_icmp .lt 10, 3) := sl_row ag_isDrawn_1 gl_isDrawn_1 (i := 10) (r := (17, .if_icmp .lt 10, 3)) rfl
theorem dL_isDrawn_84 : decode cL_isDrawn 84 = .ok (.iload 6, 2) := sl_row ag_isDrawn_1 gl_isDrawn_1 (i := 11) (r := (20, .iload 6, 2)) rfl
theorem dL_isDrawn_86 : decode cL_isDrawn 86 = .ok (.bipush 14, 2) := sl_row ag_isDrawn_1 gl_isDrawn_1 (i := 12) (r := (22, .bipush 14, 2)) rfl
theorem dL_isDrawn_88 : decode cL_isDrawn 88 = .ok (.if_icmp .le 7, 3) := sl_row ag_isDrawn_1 gl_isDrawn_1 (i := 13) (r := (24, .if_icmp .le 7, 3)) rfl
theorem dL_isDrawn_91 : decode cL_isDrawn 91 = .ok (.iconst 2, 1) := sl_row ag_isDrawn_1 gl_isDrawn_1 (i := 14) (r := (27, .iconst 2, 1)) rfl
theorem dL_isDrawn_92 : decode cL_isDrawn 92 = .ok (.goto 57, 3) := sl_row ag_isDrawn_1 gl_isDrawn_1 (i := 15) (r := (28, .goto 57, 3)) rfl
theorem dL_isDrawn_95 : decode cL_isDrawn 95 = .ok (.iload 6, 2) := sl_row ag_isDrawn_1 gl_isDrawn_1 (i := 16) (r := (31, .iload 6, 2)) rfl
theorem dL_isDrawn_97 : decode cL_isDrawn 97 = .ok (.iconst 4, 1) := sl_row ag_isDrawn_1 gl_isDrawn_1 (i := 17) (r := (33, .iconst 4, 1)) rfl
theorem dL_isDrawn_98 : decode cL_isDrawn 98 = .ok (.if_icmp .lt 10, 3) := sl_row ag_isDrawn_1 gl_isDrawn_1 (i := 18) (r := (34, .if_icmp .lt 10, 3)) rfl
theorem dL_isDrawn_101 : decode cL_isDrawn 101 = .ok (.iload 6, 2) := sl_row ag_isDrawn_1 gl_isDrawn_1 (i := 19) (r := (37, .iload 6, 2)) rfl
theorem dL_isDrawn_103 : decode cL_isDrawn 103 = .ok (.bipush 12, 2) := sl_row ag_isDrawn_1 gl_isDrawn_1 (i := 20) (r := (39, .bipush 12, 2)) rfl
theorem dL_isDrawn_105 : decode cL_isDrawn 105 = .ok (.if_icmp .le 7, 3) := sl_row ag_isDrawn_1 gl_isDrawn_1 (i := 21) (r := (41, .if_icmp .le 7, 3)) rfl
theorem dL_isDrawn_108 : decode cL_isDrawn 108 = .ok (.iconst 1, 1) := sl_row ag_isDrawn_1 gl_isDrawn_1 (i := 22) (r := (44, .iconst 1, 1)) rfl
theorem dL_isDrawn_109 : decode cL_isDrawn 109 = .ok (.goto 40, 3) := sl_row ag_isDrawn_1 gl_isDrawn_1 (i := 23) (r := (45, .goto 40, 3)) rfl
theorem dL_isDrawn_112 : decode cL_isDrawn 112 = .ok (.iload 6, 2) := sl_row ag_isDrawn_1 gl_isDrawn_1 (i := 24) (r := (48, .iload 6, 2)) rfl
theorem dL_isDrawn_114 : decode cL_isDrawn 114 = .ok (.iconst 4, 1) := sl_row ag_isDrawn_1 gl_isDrawn_1 (i := 25) (r := (50, .iconst 4, 1)) rfl
theorem dL_isDrawn_115 : decode cL_isDrawn 115 = .ok (.if_icmp .eq 10, 3) := sl_row ag_isDrawn_1 gl_isDrawn_1 (i := 26) (r := (51, .if_icmp .eq 10, 3)) rfl
theorem dL_isDrawn_118 : decode cL_isDrawn 118 = .ok (.iload 6, 2) := sl_row ag_isDrawn_1 gl_isDrawn_1 (i := 27) (r := (54, .iload 6, 2)) rfl
theorem dL_isDrawn_120 : decode cL_isDrawn 120 = .ok (.bipush 12, 2) := sl_row ag_isDrawn_1 gl_isDrawn_1 (i := 28) (r := (56, .bipush 12, 2)) rfl
theorem dL_isDrawn_122 : decode cL_isDrawn 122 = .ok (.if_icmp .ne 7, 3) := sl_row ag_isDrawn_1 gl_isDrawn_1 (i := 29) (r := (58, .if_icmp .ne 7, 3)) rfl
theorem dL_isDrawn_125 : decode cL_isDrawn 125 = .ok (.iconst 0, 1) := sl_row ag_isDrawn_1 gl_isDrawn_1 (i := 30) (r := (61, .iconst 0, 1)) rfl
theorem dL_isDrawn_126 : decode cL_isDrawn 126 = .ok (.goto 23, 3) := sl_row ag_isDrawn_1 gl_isDrawn_1 (i := 31) (r := (62, .goto 23, 3)) rfl
def ck_isDrawn_2 : ByteArray := .mk #[0x17, 0x15, 0x06, 0x10, 0x06, 0xa1, 0x00, 0x0a, 0x15, 0x06, 0x10, 0x0a, 0xa4, 0x00, 0x07, 0x02, 0xa7, 0x00, 0x05, 0x10, 0xfe, 0x36, 0x08, 0x15, 0x06, 0x99, 0x00, 0x0a, 0x15, 0x06, 0x10, 0x08, 0xa0, 0x00, 0x07, 0x03, 0xa7, 0x00, 0x33, 0x15, 0x06, 0x05, 0xa1, 0x00, 0x0a, 0x15, 0x06, 0x10, 0x07, 0xa0, 0x00, 0x07, 0x04, 0xa7, 0x00, 0x22, 0x15, 0x06, 0x10, 0x07, 0xa2, 0x00, 0x07, 0x05, 0xa7, 0x00, 0x17, 0x15]
set_option maxRecDepth 20000 in
theorem ag_isDrawn_2 : ∀ q, agB cL_isDrawn ck_isDrawn_2 (128 + q) q := agB_of 128 (by decide +kernel)
def tl_isDrawn_2 : List (Nat × Instr × Nat) := [(1, .iload 6, 2), (3, .bipush 6, 2), (5, .if_icmp .lt 10, 3), (8, .iload 6, 2), (10, .bipush 10, 2), (12, .if_icmp .le 7, 3), (15, .iconst (-1), 1), (16, .goto 5, 3), (19, .bipush (-2), 2), (21, .istore 8, 2), (23, .iload 6, 2), (25, .ifCond .eq 10, 3), (28, .iload 6, 2), (30, .bipush 8, 2), (32, .if_icmp .ne 7, 3), (35, .iconst 0, 1), (36, .goto 51, 3), (39, .iload 6, 2), (41, .iconst 2, 1), (42, .if_icmp .lt 10, 3), (45, .iload 6, 2), (47, .bipush 7, 2), (49, .if_icmp .ne 7, 3), (52, .iconst 1, 1), (53, .goto 34, 3), (56, .iload 6, 2), (58, .bipush 7, 2), (60, .if_icmp .ge 7, 3), (63, .iconst 2, 1)]
theorem gl_isDrawn_2 : tl_isDrawn_2.all (fun r => opB ck_isDrawn_2 r.1 && decide (decode ck_isDrawn_2 r.1 = .ok (r.2.1, r.2.2))) = true := by decide +kernel
theorem dL_isDrawn_129 : decode cL_isDrawn 129 = .ok (.iload 6, 2) := sl_row ag_isDrawn_2 gl_isDrawn_2 (i := 0) (r := (1, .iload 6, 2)) rfl
theorem dL_isDrawn_131 : decode cL_isDrawn 131 = .ok (.bipush 6, 2) := sl_row ag_isDrawn_2 gl_isDrawn_2 (i := 1) (r := (3, .bipush 6, 2)) rfl
theorem dL_isDrawn_133 : decode cL_isDrawn 133 = .ok (.if_icmp .lt 10, 3) := sl_row ag_isDrawn_2 gl_isDrawn_2 (i := 2) (r := (5, .if_icmp .lt 10, 3)) rfl
theorem dL_isDrawn_136 : decode cL_isDrawn 136 = .ok (.iload 6, 2) := sl_row ag_isDrawn_2 gl_isDrawn_2 (i := 3) (r := (8, .iload 6, 2)) rfl
theorem dL_isDrawn_138 : decode cL_isDrawn 138 = .ok (.bipush 10, 2) := sl_row ag_isDrawn_2 gl_isDrawn_2 (i := 4) (r := (10, .bipush 10, 2)) rfl
theorem dL_isDrawn_140 : decode cL_isDrawn 140 = .ok (.if_icmp .le 7, 3) := sl_row ag_isDrawn_2 gl_isDrawn_2 (i := 5) (r := (12, .if_icmp .le 7, 3)) rfl
theorem dL_isDrawn_143 : decode cL_isDrawn 143 = .ok (.iconst (-1), 1) := sl_row ag_isDrawn_2 gl_isDrawn_2 (i := 6) (r := (15, .iconst (-1), 1)) rfl
theorem dL_isDrawn_144 : decode cL_isDrawn 144 = .ok (.goto 5, 3) := sl_row ag_isDrawn_2 gl_isDrawn_2 (i := 7) (r := (16, .goto 5, 3)) rfl
theorem dL_isDrawn_147 : decode cL_isDrawn 147 = .ok (.bipush (-2), 2) := sl_row ag_isDrawn_2 gl_isDrawn_2 (i := 8) (r := (19, .bipush (-2), 2)) rfl
theorem dL_isDrawn_149 : decode cL_isDrawn 149 = .ok (.istore 8, 2) := sl_row ag_isDrawn_2 gl_isDrawn_2 (i := 9) (r := (21, .istore 8, 2)) rfl
theorem dL_isDrawn_151 : decode cL_isDrawn 151 = .ok (.iload 6, 2) := sl_row ag_isDrawn_2 gl_isDrawn_2 (i := 10) (r := (23, .iload 6, 2)) rfl
theorem dL_isDrawn_153 : decode cL_isDrawn 153 = .ok (.ifCond .eq 10, 3) := sl_row ag_isDrawn_2 gl_isDrawn_2 (i := 11) (r := (25, .ifCond .eq 10, 3)) rfl
theorem dL_isDrawn_156 : decode cL_isDrawn 156 = .ok (.iload 6, 2) := sl_row ag_isDrawn_2 gl_isDrawn_2 (i := 12) (r := (28, .iload 6, 2)) rfl
theorem dL_isDrawn_158 : decode cL_isDrawn 158 = .ok (.bipush 8, 2) := sl_row ag_isDrawn_2 gl_isDrawn_2 (i := 13) (r := (30, .bipush 8, 2)) rfl
theorem dL_isDrawn_160 : decode cL_isDrawn 160 = .ok (.if_icmp .ne 7, 3) := sl_row ag_isDrawn_2 gl_isDrawn_2 (i := 14) (r := (32, .if_icmp .ne 7, 3)) rfl
theorem dL_isDrawn_163 : decode cL_isDrawn 163 = .ok (.iconst 0, 1) := sl_row ag_isDrawn_2 gl_isDrawn_2 (i := 15) (r := (35, .iconst 0, 1)) rfl
theorem dL_isDrawn_164 : decode cL_isDrawn 164 = .ok (.goto 51, 3) := sl_row ag_isDrawn_2 gl_isDrawn_2 (i := 16) (r := (36, .goto 51, 3)) rfl
theorem dL_isDrawn_167 : decode cL_isDrawn 167 = .ok (.iload 6, 2) := sl_row ag_isDrawn_2 gl_isDrawn_2 (i := 17) (r := (39, .iload 6, 2)) rfl
theorem dL_isDrawn_169 : decode cL_isDrawn 169 = .ok (.iconst 2, 1) := sl_row ag_isDrawn_2 gl_isDrawn_2 (i := 18) (r := (41, .iconst 2, 1)) rfl
theorem dL_isDrawn_170 : decode cL_isDrawn 170 = .ok (.if_icmp .lt 10, 3) := sl_row ag_isDrawn_2 gl_isDrawn_2 (i := 19) (r := (42, .if_icmp .lt 10, 3)) rfl
theorem dL_isDrawn_173 : decode cL_isDrawn 173 = .ok (.iload 6, 2) := sl_row ag_isDrawn_2 gl_isDrawn_2 (i := 20) (r := (45, .iload 6, 2)) rfl
theorem dL_isDrawn_175 : decode cL_isDrawn 175 = .ok (.bipush 7, 2) := sl_row ag_isDrawn_2 gl_isDrawn_2 (i := 21) (r := (47, .bipush 7, 2)) rfl
theorem dL_isDrawn_177 : decode cL_isDrawn 177 = .ok (.if_icmp .ne 7, 3) := sl_row ag_isDrawn_2 gl_isDrawn_2 (i := 22) (r := (49, .if_icmp .ne 7, 3)) rfl
theorem dL_isDrawn_180 : decode cL_isDrawn 180 = .ok (.iconst 1, 1) := sl_row ag_isDrawn_2 gl_isDrawn_2 (i := 23) (r := (52, .iconst 1, 1)) rfl
theorem dL_isDrawn_181 : decode cL_isDrawn 181 = .ok (.goto 34, 3) := sl_row ag_isDrawn_2 gl_isDrawn_2 (i := 24) (r := (53, .goto 34, 3)) rfl
theorem dL_isDrawn_184 : decode cL_isDrawn 184 = .ok (.iload 6, 2) := sl_row ag_isDrawn_2 gl_isDrawn_2 (i := 25) (r := (56, .iload 6, 2)) rfl
theorem dL_isDrawn_186 : decode cL_isDrawn 186 = .ok (.bipush 7, 2) := sl_row ag_isDrawn_2 gl_isDrawn_2 (i := 26) (r := (58, .bipush 7, 2)) rfl
theorem dL_isDrawn_188 : decode cL_isDrawn 188 = .ok (.if_icmp .ge 7, 3) := sl_row ag_isDrawn_2 gl_isDrawn_2 (i := 27) (r := (60, .if_icmp .ge 7, 3)) rfl
theorem dL_isDrawn_191 : decode cL_isDrawn 191 = .ok (.iconst 2, 1) := sl_row ag_isDrawn_2 gl_isDrawn_2 (i := 28) (r := (63, .iconst 2, 1)) rfl
def ck_isDrawn_3 : ByteArray := .mk #[0xa7, 0x00, 0x17, 0x15, 0x06, 0x10, 0x09, 0x9f, 0x00, 0x0a, 0x15, 0x06, 0x10, 0x0f, 0xa0, 0x00, 0x07, 0x02, 0xa7, 0x00, 0x05, 0x10, 0xfe, 0x36, 0x09, 0x2a, 0xb4, 0x00, 0x1a, 0x15, 0x05, 0x1c, 0x99, 0x00, 0x11, 0x2a, 0x05, 0x1d, 0x68, 0x04, 0x60, 0xb6, 0x00, 0x36, 0x1d, 0x64, 0xa7, 0x00, 0x08, 0x15, 0x08, 0x15, 0x07, 0x68, 0x4f, 0x2a, 0xb4, 0x00, 0x1d, 0x15, 0x05, 0x1c, 0x99, 0x00, 0x11, 0x2a, 0x05, 0x1d]
set_option maxRecDepth 20000 in
theorem ag_isDrawn_3 : ∀ q, agB cL_isDrawn ck_isDrawn_3 (192 + q) q := agB_of 192 (by decide +kernel)
def tl_isDrawn_3 : List (Nat × Instr × Nat) := [(0, .goto 23, 3), (3, .iload 6, 2), (5, .bipush 9, 2), (7, .if_icmp .eq 10, 3), (10, .iload 6, 2), (12, .bipush 15, 2), (14, .if_icmp .ne 7, 3), (17, .iconst (-1), 1), (18, .goto 5, 3), (21, .bipush (-2), 2), (23, .istore 9, 2), (25, .aload_n 0, 1), (26, .getfield 26, 3), (29, .iload 5, 2), (31, .iload_n 2, 1), (32, .ifCond .eq 17, 3), (35, .aload_n 0, 1), (36, .iconst 2, 1), (37, .iload_n 3, 1), (38, .imul, 1), (39, .iconst 1, 1), (40, .iadd, 1), (41, .invokevirtual 54, 3), (44, .iload_n 3, 1), (45, .isub, 1), (46, .goto 8, 3), (49, .iload 8, 2), (51, .iload 7, 2), (53, .imul, 1), (54, .iastore, 1), (55, .aload_n 0, 1), (56, .getfield 29, 3), (59, .iload 5, 2), (61, .iload_n 2, 1), (62, .ifCond .eq 17, 3)]
theorem gl_isDrawn_3 : tl_isDrawn_3.all (fun r => opB ck_isDrawn_3 r.1 && decide (decode ck_isDrawn_3 r.1 = .ok (r.2.1, r.2.2))) = true := by decide +kernel
theorem dL_isDrawn_192 : decode cL_isDrawn 192 = .ok (.goto 23, 3) := sl_row ag_isDrawn_3 gl_isDrawn_3 (i := 0) (r := (0, .goto 23, 3)) rfl
theorem dL_isDrawn_195 : decode cL_isDrawn 195 = .ok (.iload 6, 2) := sl_row ag_isDrawn_3 gl_isDrawn_3 (i := 1) (r := (3, .iload 6, 2)) rfl
theorem dL_isDrawn_197 : decode cL_isDrawn 197 = .ok (.bipush 9, 2) := sl_row ag_isDrawn_3 gl_isDrawn_3 (i := 2) (r := (5, .bipush 9, 2)) rfl
theorem dL_isDrawn_199 : decode cL_isDrawn 199 = .ok (.if_icmp .eq 10, 3) := sl_row ag_isDrawn_3 gl_isDrawn_3 (i := 3) (r := (7, .if_icmp .eq 10, 3)) rfl
theorem dL_isDrawn_202 : decode cL_isDrawn 202 = .ok (.iload 6, 2) := sl_row ag_isDrawn_3 gl_isDrawn_3 (i := 4) (r := (10, .iload 6, 2)) rfl
theorem dL_isDrawn_204 : decode cL_isDrawn 204 = .ok (.bipush 15, 2) := sl_row ag_isDrawn_3 gl_isDrawn_3 (i := 5) (r := (12, .bipush 15, 2)) rfl
theorem dL_isDrawn_206 : decode cL_isDrawn 206 = .ok (.if_icmp .ne 7, 3) := sl_row ag_isDrawn_3 gl_isDrawn_3 (i := 6) (r := (14, .if_icmp .ne 7, 3)) rfl
theorem dL_isDrawn_209 : decode cL_isDrawn 209 = .ok (.iconst (-1), 1) := sl_row ag_isDrawn_3 gl_isDrawn_3 (i := 7) (r := (17, .iconst (-1), 1)) rfl
theorem dL_isDrawn_210 : decode cL_isDrawn 210 = .ok (.goto 5, 3) := sl_row ag_isDrawn_3 gl_isDrawn_3 (i := 8) (r := (18, .goto 5, 3)) rfl
theorem dL_isDrawn_213 : decode cL_isDrawn 213 = .ok (.bipush (-2), 2) := sl_row ag_isDrawn_3 gl_isDrawn_3 (i := 9) (r := (21, .bipush (-2), 2)) rfl
theorem dL_isDrawn_215 : decode cL_isDrawn 215 = .ok (.istore 9, 2) := sl_row ag_isDrawn_3 gl_isDrawn_3 (i := 10) (r := (23, .istore 9, 2)) rfl
theorem dL_isDrawn_217 : decode cL_isDrawn 217 = .ok (.aload_n 0, 1) := sl_row ag_isDrawn_3 gl_isDrawn_3 (i := 11) (r := (25, .aload_n 0, 1)) rfl
theorem dL_isDrawn_218 : decode cL_isDrawn 218 = .ok (.getfield 26, 3) := sl_row ag_isDrawn_3 gl_isDrawn_3 (i := 12) (r := (26, .getfield 26, 3)) rfl
theorem dL_isDrawn_221 : decode cL_isDrawn 221 = .ok (.iload 5, 2) := sl_row ag_isDrawn_3 gl_isDrawn_3 (i := 13) (r := (29, .iload 5, 2)) rfl
theorem dL_isDrawn_223 : decode cL_isDrawn 223 = .ok (.iload_n 2, 1) := sl_row ag_isDrawn_3 gl_isDrawn_3 (i := 14) (r := (31, .iload_n 2, 1)) rfl
theorem dL_isDrawn_224 : decode cL_isDrawn 224 = .ok (.ifCond .eq 17, 3) := sl_row ag_isDrawn_3 gl_isDrawn_3 (i := 15) (r := (32, .ifCond .eq 17, 3)) rfl
theorem dL_isDrawn_227 : decode cL_isDrawn 227 = .ok (.aload_n 0, 1) := sl_row ag_isDrawn_3 gl_isDrawn_3 (i := 16) (r := (35, .aload_n 0, 1)) rfl
theorem dL_isDrawn_228 : decode cL_isDrawn 228 = .ok (.iconst 2, 1) := sl_row ag_isDrawn_3 gl_isDrawn_3 (i := 17) (r := (36, .iconst 2, 1)) rfl
theorem dL_isDrawn_229 : decode cL_isDrawn 229 = .ok (.iload_n 3, 1) := sl_row ag_isDrawn_3 gl_isDrawn_3 (i := 18) (r := (37, .iload_n 3, 1)) rfl
theorem dL_isDrawn_230 : decode cL_isDrawn 230 = .ok (.imul, 1) := sl_row ag_isDrawn_3 gl_isDrawn_3 (i := 19) (r := (38, .imul, 1)) rfl
theorem dL_isDrawn_231 : decode cL_isDrawn 231 = .ok (.iconst 1, 1) := sl_row ag_isDrawn_3 gl_isDrawn_3 (i := 20) (r := (39, .iconst 1, 1)) rfl
theorem dL_isDrawn_232 : decode cL_isDrawn 232 = .ok (.iadd, 1) := sl_row ag_isDrawn_3 gl_isDrawn_3 (i := 21) (r := (40, .iadd, 1)) rfl
theorem dL_isDrawn_233 : decode cL_isDrawn 233 = .ok (.invokevirtual 54, 3) := sl_row ag_isDrawn_3 gl_isDrawn_3 (i := 22) (r := (41, .invokevirtual 54, 3)) rfl
theorem dL_isDrawn_236 : decode cL_isDrawn 236 = .ok (.iload_n 3, 1) := sl_row ag_isDrawn_3 gl_isDrawn_3 (i := 23) (r := (44, .iload_n 3, 1)) rfl
theorem dL_isDrawn_237 : decode cL_isDrawn 237 = .ok (.isub, 1) := sl_row ag_isDrawn_3 gl_isDrawn_3 (i := 24) (r := (45, .isub, 1)) rfl
theorem dL_isDrawn_238 : decode cL_isDrawn 238 = .ok (.goto 8, 3) := sl_row ag_isDrawn_3 gl_isDrawn_3 (i := 25) (r := (46, .goto 8, 3)) rfl
theorem dL_isDrawn_241 : decode cL_isDrawn 241 = .ok (.iload 8, 2) := sl_row ag_isDrawn_3 gl_isDrawn_3 (i := 26) (r := (49, .iload 8, 2)) rfl
theorem dL_isDrawn_243 : decode cL_isDrawn 243 = .ok (.iload 7, 2) := sl_row ag_isDrawn_3 gl_isDrawn_3 (i := 27) (r := (51, .iload 7, 2)) rfl
theorem dL_isDrawn_245 : decode cL_isDrawn 245 = .ok (.imul, 1) := sl_row ag_isDrawn_3 gl_isDrawn_3 (i := 28) (r := (53, .imul, 1)) rfl
theorem dL_isDrawn_246 : decode cL_isDrawn 246 = .ok (.iastore, 1) := sl_row ag_isDrawn_3 gl_isDrawn_3 (i := 29) (r := (54, .iastore, 1)) rfl
theorem dL_isDrawn_247 : decode cL_isDrawn 247 = .ok (.aload_n 0, 1) := sl_row ag_isDrawn_3 gl_isDrawn_3 (i := 30) (r := (55, .aload_n 0, 1)) rfl
theorem dL_isDrawn_248 : decode cL_isDrawn 248 = .ok (.getfield 29, 3) := sl_row ag_isDrawn_3 gl_isDrawn_3 (i := 31) (r := (56, .getfield 29, 3)) rfl
theorem dL_isDrawn_251 : decode cL_isDrawn 251 = .ok (.iload 5, 2) := sl_row ag_isDrawn_3 gl_isDrawn_3 (i := 32) (r := (59, .iload 5, 2)) rfl
theorem dL_isDrawn_253 : decode cL_isDrawn 253 = .ok (.iload_n 2, 1) := sl_row ag_isDrawn_3 gl_isDrawn_3 (i := 33) (r := (61, .iload_n 2, 1)) rfl
theorem dL_isDrawn_254 : decode cL_isDrawn 254 = .ok (.ifCond .eq 17, 3) := sl_row ag_isDrawn_3 gl_isDrawn_3 (i := 34) (r := (62, .ifCond .eq 17, 3)) rfl
def ck_isDrawn_4 : ByteArray := .mk #[0x11, 0x2a, 0x05, 0x1d, 0x68, 0x04, 0x60, 0xb6, 0x00, 0x36, 0x1d, 0x64, 0xa7, 0x00, 0x08, 0x15, 0x09, 0x15, 0x07, 0x68, 0x4f, 0x2a, 0xb4, 0x00, 0x0a, 0x1b, 0x2a, 0xb4, 0x00, 0x1a, 0x15, 0x05, 0x2e, 0x2a, 0xb4, 0x00, 0x1d, 0x15, 0x05, 0x2e, 0xb6, 0x00, 0xb4, 0x15, 0x05, 0x04, 0x60, 0x9f, 0x00, 0x05, 0x03, 0xac, 0x84, 0x05, 0x01, 0xa7, 0xfe, 0xf9, 0x15, 0x04, 0x9b, 0x00, 0x07, 0x04, 0xa7, 0x00, 0x04, 0x03]
set_option maxRecDepth 20000 in
theorem ag_isDrawn_4 : ∀ q, agB cL_isDrawn ck_isDrawn_4 (256 + q) q := agB_of 256 (by decide +kernel)
def tl_isDrawn_4 : List (Nat × Instr × Nat) := [(1, .aload_n 0, 1), (2, .iconst 2, 1), (3, .iload_n 3, 1), (4, .imul, 1), (5, .iconst 1, 1), (6, .iadd, 1), (7, .invokevirtual 54, 3), (10, .iload_n 3, 1), (11, .isub, 1), (12, .goto 8, 3), (15, .iload 9, 2), (17, .iload 7, 2), (19, .imul, 1), (20, .iastore, 1), (21, .aload_n 0, 1), (22, .getfield 10, 3), (25, .iload_n 1, 1), (26, .aload_n 0, 1), (27, .getfield 26, 3), (30, .iload 5, 2), (32, .iaload, 1), (33, .aload_n 0, 1), (34, .getfield 29, 3), (37, .iload 5, 2), (39, .iaload, 1), (40, .invokevirtual 180, 3), (43, .iload 5, 2), (45, .iconst 1, 1), (46, .iadd, 1), (47, .if_icmp .eq 5, 3), (50, .iconst 0, 1), (51, .ireturn, 1), (52, .iinc 5 1, 3), (55, .goto (-263), 3), (58, .iload 4, 2), (60, .ifCond .lt 7, 3), (63, .iconst 1, 1)]
theorem gl_isDrawn_4 : tl_isDrawn_4.all (fun r => opB ck_isDrawn_4 r.1 && decide (decode ck_isDrawn_4 r.1 = .ok (r.2.1, r.2.2))) = true := by decide +kernel
theorem dL_isDrawn_257 : decode cL_isDrawn 257 = .ok (.aload_n 0, 1) := sl_row ag_isDrawn_4 gl_isDrawn_4 (i := 0) (r := (1, .aload_n 0, 1)) rfl
theorem dL_isDrawn_258 : decode cL_isDrawn 258 = .ok (.iconst 2, 1) := sl_row ag_isDrawn_4 gl_isDrawn_4 (i := 1) (r := (2, .iconst 2, 1)) rfl
theorem dL_isDrawn_259 : decode cL_isDrawn 259 = .ok (.iload_n 3, 1) := sl_row ag_isDrawn_4 gl_isDrawn_4 (i := 2) (r := (3, .iload_n 3, 1)) rfl
theorem dL_isDrawn_260 : decode cL_isDrawn 260 = .ok (.imul, 1) := sl_row ag_isDrawn_4 gl_isDrawn_4 (i := 3) (r := (4, .imul, 1)) rfl
theorem dL_isDrawn_261 : decode cL_isDrawn 261 = .ok (.iconst 1, 1) := sl_row ag_isDrawn_4 gl_isDrawn_4 (i := 4) (r := (5, .iconst 1, 1)) rfl
theorem dL_isDrawn_262 : decode cL_isDrawn 262 = .ok (.iadd, 1) := sl_row ag_isDrawn_4 gl_isDrawn_4 (i := 5) (r := (6, .iadd, 1)) rfl
theorem dL_isDrawn_263 : decode cL_isDrawn 263 = .ok (.invokevirtual 54, 3) := sl_row ag_isDrawn_4 gl_isDrawn_4 (i := 6) (r := (7, .invokevirtual 54, 3)) rfl
theorem dL_isDrawn_266 : decode cL_isDrawn 266 = .ok (.iload_n 3, 1) := sl_row ag_isDrawn_4 gl_isDrawn_4 (i := 7) (r := (10, .iload_n 3, 1)) rfl
theorem dL_isDrawn_267 : decode cL_isDrawn 267 = .ok (.isub, 1) := sl_row ag_isDrawn_4 gl_isDrawn_4 (i := 8) (r := (11, .isub, 1)) rfl
theorem dL_isDrawn_268 : decode cL_isDrawn 268 = .ok (.goto 8, 3) := sl_row ag_isDrawn_4 gl_isDrawn_4 (i := 9) (r := (12, .goto 8, 3)) rfl
theorem dL_isDrawn_271 : decode cL_isDrawn 271 = .ok (.iload 9, 2) := sl_row ag_isDrawn_4 gl_isDrawn_4 (i := 10) (r := (15, .iload 9, 2)) rfl
theorem dL_isDrawn_273 : decode cL_isDrawn 273 = .ok (.iload 7, 2) := sl_row ag_isDrawn_4 gl_isDrawn_4 (i := 11) (r := (17, .iload 7, 2)) rfl
theorem dL_isDrawn_275 : decode cL_isDrawn 275 = .ok (.imul, 1) := sl_row ag_isDrawn_4 gl_isDrawn_4 (i := 12) (r := (19, .imul, 1)) rfl
theorem dL_isDrawn_276 : decode cL_isDrawn 276 = .ok (.iastore, 1) := sl_row ag_isDrawn_4 gl_isDrawn_4 (i := 13) (r := (20, .iastore, 1)) rfl
theorem dL_isDrawn_277 : decode cL_isDrawn 277 = .ok (.aload_n 0, 1) := sl_row ag_isDrawn_4 gl_isDrawn_4 (i := 14) (r := (21, .aload_n 0, 1)) rfl
theorem dL_isDrawn_278 : decode cL_isDrawn 278 = .ok (.getfield 10, 3) := sl_row ag_isDrawn_4 gl_isDrawn_4 (i := 15) (r := (22, .getfield 10, 3)) rfl
theorem dL_isDrawn_281 : decode cL_isDrawn 281 = .ok (.iload_n 1, 1) := sl_row ag_isDrawn_4 gl_isDrawn_4 (i := 16) (r := (25, .iload_n 1, 1)) rfl
theorem dL_isDrawn_282 : decode cL_isDrawn 282 = .ok (.aload_n 0, 1) := sl_row ag_isDrawn_4 gl_isDrawn_4 (i := 17) (r := (26, .aload_n 0, 1)) rfl
theorem dL_isDrawn_283 : decode cL_isDrawn 283 = .ok (.getfield 26, 3) := sl_row ag_isDrawn_4 gl_isDrawn_4 (i := 18) (r := (27, .getfield 26, 3)) rfl
theorem dL_isDrawn_286 : decode cL_isDrawn 286 = .ok (.iload 5, 2) := sl_row ag_isDrawn_4 gl_isDrawn_4 (i := 19) (r := (30, .iload 5, 2)) rfl
theorem dL_isDrawn_288 : decode cL_isDrawn 288 = .ok (.iaload, 1) := sl_row ag_isDrawn_4 gl_isDrawn_4 (i := 20) (r := (32, .iaload, 1)) rfl
theorem dL_isDrawn_289 : decode cL_isDrawn 289 = .ok (.aload_n 0, 1) := sl_row ag_isDrawn_4 gl_isDrawn_4 (i := 21) (r := (33, .aload_n 0, 1)) rfl
theorem dL_isDrawn_290 : decode cL_isDrawn 290 = .ok (.getfield 29, 3) := sl_row ag_isDrawn_4 gl_isDrawn_4 (i := 22) (r := (34, .getfield 29, 3)) rfl
theorem dL_isDrawn_293 : decode cL_isDrawn 293 = .ok (.iload 5, 2) := sl_row ag_isDrawn_4 gl_isDrawn_4 (i := 23) (r := (37, .iload 5, 2)) rfl
theorem dL_isDrawn_295 : decode cL_isDrawn 295 = .ok (.iaload, 1) := sl_row ag_isDrawn_4 gl_isDrawn_4 (i := 24) (r := (39, .iaload, 1)) rfl
theorem dL_isDrawn_296 : decode cL_isDrawn 296 = .ok (.invokevirtual 180, 3) := sl_row ag_isDrawn_4 gl_isDrawn_4 (i := 25) (r := (40, .invokevirtual 180, 3)) rfl
theorem dL_isDrawn_299 : decode cL_isDrawn 299 = .ok (.iload 5, 2) := sl_row ag_isDrawn_4 gl_isDrawn_4 (i := 26) (r := (43, .iload 5, 2)) rfl
theorem dL_isDrawn_301 : decode cL_isDrawn 301 = .ok (.iconst 1, 1) := sl_row ag_isDrawn_4 gl_isDrawn_4 (i := 27) (r := (45, .iconst 1, 1)) rfl
theorem dL_isDrawn_302 : decode cL_isDrawn 302 = .ok (.iadd, 1) := sl_row ag_isDrawn_4 gl_isDrawn_4 (i := 28) (r := (46, .iadd, 1)) rfl
theorem dL_isDrawn_303 : decode cL_isDrawn 303 = .ok (.if_icmp .eq 5, 3) := sl_row ag_isDrawn_4 gl_isDrawn_4 (i := 29) (r := (47, .if_icmp .eq 5, 3)) rfl
theorem dL_isDrawn_306 : decode cL_isDrawn 306 = .ok (.iconst 0, 1) := sl_row ag_isDrawn_4 gl_isDrawn_4 (i := 30) (r := (50, .iconst 0, 1)) rfl
theorem dL_isDrawn_307 : decode cL_isDrawn 307 = .ok (.ireturn, 1) := sl_row ag_isDrawn_4 gl_isDrawn_4 (i := 31) (r := (51, .ireturn, 1)) rfl
theorem dL_isDrawn_308 : decode cL_isDrawn 308 = .ok (.iinc 5 1, 3) := sl_row ag_isDrawn_4 gl_isDrawn_4 (i := 32) (r := (52, .iinc 5 1, 3)) rfl
theorem dL_isDrawn_311 : decode cL_isDrawn 311 = .ok (.goto (-263), 3) := sl_row ag_isDrawn_4 gl_isDrawn_4 (i := 33) (r := (55, .goto (-263), 3)) rfl
theorem dL_isDrawn_314 : decode cL_isDrawn 314 = .ok (.iload 4, 2) := sl_row ag_isDrawn_4 gl_isDrawn_4 (i := 34) (r := (58, .iload 4, 2)) rfl
theorem dL_isDrawn_316 : decode cL_isDrawn 316 = .ok (.ifCond .lt 7, 3) := sl_row ag_isDrawn_4 gl_isDrawn_4 (i := 35) (r := (60, .ifCond .lt 7, 3)) rfl
theorem dL_isDrawn_319 : decode cL_isDrawn 319 = .ok (.iconst 1, 1) := sl_row ag_isDrawn_4 gl_isDrawn_4 (i := 36) (r := (63, .iconst 1, 1)) rfl
def ck_isDrawn_5 : ByteArray := .mk #[0xa7, 0x00, 0x04, 0x03, 0xac]
set_option maxRecDepth 20000 in
theorem ag_isDrawn_5 : ∀ q, agB cL_isDrawn ck_isDrawn_5 (320 + q) q := agB_of 320 (by decide +kernel)
def tl_isDrawn_5 : List (Nat × Instr × Nat) := [(0, .goto 4, 3), (3, .iconst 0, 1), (4, .ireturn, 1)]
theorem gl_isDrawn_5 : tl_isDrawn_5.all (fun r => opB ck_isDrawn_5 r.1 && decide (decode ck_isDrawn_5 r.1 = .ok (r.2.1, r.2.2))) = true := by decide +kernel
theorem dL_isDrawn_320 : decode cL_isDrawn 320 = .ok (.goto 4, 3) := sl_row ag_isDrawn_5 gl_isDrawn_5 (i := 0) (r := (0, .goto 4, 3)) rfl
theorem dL_isDrawn_323 : decode cL_isDrawn 323 = .ok (.iconst 0, 1) := sl_row ag_isDrawn_5 gl_isDrawn_5 (i := 1) (r := (3, .iconst 0, 1)) rfl
theorem dL_isDrawn_324 : decode cL_isDrawn 324 = .ok (.ireturn, 1) := sl_row ag_isDrawn_5 gl_isDrawn_5 (i := 2) (r := (4, .ireturn, 1)) rfl
def ck_isPolygon_0 : ByteArray := .mk #[0x03, 0x3d, 0x03, 0x3e, 0x03, 0x36, 0x04, 0x15, 0x04, 0x2a, 0xb4, 0x00, 0xae, 0xa2, 0x00, 0x5a, 0x15, 0x04, 0x04, 0x60, 0x2a, 0xb4, 0x00, 0xae, 0x70, 0x36, 0x05, 0x1c, 0x2a, 0xb4, 0x00, 0x1a, 0x15, 0x04, 0x2e, 0x2a, 0xb4, 0x00, 0x1d, 0x15, 0x05, 0x2e, 0x68, 0x2a, 0xb4, 0x00, 0x1d, 0x15, 0x04, 0x2e, 0x2a, 0xb4, 0x00, 0x1a, 0x15, 0x05, 0x2e, 0x68, 0x64, 0x60, 0x3d, 0x1d, 0x2a, 0xb4, 0x00, 0x1a, 0x15, 0x05]
set_option maxRecDepth 20000 in
theorem ag_isPolygon_0 : ∀ q, agB cL_isPolygon ck_isPolygon_0 (0 + q) q := agB_of 0 (by decide +kernel)
def tl_isPolygon_0 : List (Nat × Instr × Nat) := [(0, .iconst 0, 1), (1, .istore_n 2, 1), (2, .iconst 0, 1), (3, .istore_n 3, 1), (4, .iconst 0, 1), (5, .istore 4, 2), (7, .iload 4, 2), (9, .aload_n 0, 1), (10, .getfield 174, 3), (13, .if_icmp .ge 90, 3), (16, .iload 4, 2), (18, .iconst 1, 1), (19, .iadd, 1), (20, .aload_n 0, 1), (21, .getfield 174, 3), (24, .irem, 1), (25, .istore 5, 2), (27, .iload_n 2, 1), (28, .aload_n 0, 1), (29, .getfield 26, 3), (32, .iload 4, 2), (34, .iaload, 1), (35, .aload_n 0, 1), (36, .getfield 29, 3), (39, .iload 5, 2), (41, .iaload, 1), (42, .imul, 1), (43, .aload_n 0, 1), (44, .getfield 29, 3), (47, .iload 4, 2), (49, .iaload, 1), (50, .aload_n 0, 1), (51, .getfield 26, 3), (54, .iload 5, 2), (56, .iaload, 1), (57, .imul, 1), (58, .isub, 1), (59, .iadd, 1), (60, .istore_n 2, 1), (61, .iload_n 3, 1), (62, .aload_n 0, 1), (63, .getfield 26, 3)]
theorem gl_isPolygon_0 : tl_isPolygon_0.all (fun r => opB ck_isPolygon_0 r.1 && decide (decode ck_isPolygon_0 r.1 = .ok (r.2.1, r.2.2))) = true := by decide +kernel
theorem dL_isPolygon_0 : decode cL_isPolygon 0 = .ok (.iconst 0, 1) := sl_row ag_isPolygon_0 gl_isPolygon_0 (i := 0) (r := (0, .iconst 0, 1)) rfl
theorem dL_isPolygon_1 : decode cL_isPolygon 1 = .ok (.istore_n 2, 1) := sl_row ag_isPolygon_0 gl_isPolygon_0 (i := 1) (r := (1, .istore_n 2, 1)) rfl
theorem dL_isPolygon_2 : decode cL_isPolygon 2 = .ok (.iconst 0, 1) := sl_row ag_isPolygon_0 gl_isPolygon_0 (i := 2) (r := (2, .iconst 0, 1)) rfl
theorem dL_isPolygon_3 : decode cL_isPolygon 3 = .ok (.istore_n 3, 1) := sl_row ag_isPolygon_0 gl_isPolygon_0 (i := 3) (r := (3, .istore_n 3, 1)) rfl
theorem dL_isPolygon_4 : decode cL_isPolygon 4 = .ok (.iconst 0, 1) := sl_row ag_isPolygon_0 gl_isPolygon_0 (i := 4) (r := (4, .iconst 0, 1)) rfl
theorem dL_isPolygon_5 : decode cL_isPolygon 5 = .ok (.istore 4, 2) := sl_row ag_isPolygon_0 gl_isPolygon_0 (i := 5) (r := (5, .istore 4, 2)) rfl
theorem dL_isPolygon_7 : decode cL_isPolygon 7 = .ok (.iload 4, 2) := sl_row ag_isPolygon_0 gl_isPolygon_0 (i := 6) (r := (7, .iload 4, 2)) rfl
theorem dL_isPolygon_9 : decode cL_isPolygon 9 = .ok (.aload_n 0, 1) := sl_row ag_isPolygon_0 gl_isPolygon_0 (i := 7) (r := (9, .aload_n 0, 1)) rfl
theorem dL_isPolygon_10 : decode cL_isPolygon 10 = .ok (.getfield 174, 3) := sl_row ag_isPolygon_0 gl_isPolygon_0 (i := 8) (r := (10, .getfield 174, 3)) rfl
theorem dL_isPolygon_13 : decode cL_isPolygon 13 = .ok (.if_icmp .ge 90, 3) := sl_row ag_isPolygon_0 gl_isPolygon_0 (i := 9) (r := (13, .if_icmp .ge 90, 3)) rfl
theorem dL_isPolygon_16 : decode cL_isPolygon 16 = .ok (.iload 4, 2) := sl_row ag_isPolygon_0 gl_isPolygon_0 (i := 10) (r := (16, .iload 4, 2)) rfl
theorem dL_isPolygon_18 : decode cL_isPolygon 18 = .ok (.iconst 1, 1) := sl_row ag_isPolygon_0 gl_isPolygon_0 (i := 11) (r := (18, .iconst 1, 1)) rfl
theorem dL_isPolygon_19 : decode cL_isPolygon 19 = .ok (.iadd, 1) := sl_row ag_isPolygon_0 gl_isPolygon_0 (i := 12) (r := (19, .iadd, 1)) rfl
theorem dL_isPolygon_20 : decode cL_isPolygon 20 = .ok (.aload_n 0, 1) := sl_row ag_isPolygon_0 gl_isPolygon_0 (i := 13) (r := (20, .aload_n 0, 1)) rfl
theorem dL_isPolygon_21 : decode cL_isPolygon 21 = .ok (.getfield 174, 3) := sl_row ag_isPolygon_0 gl_isPolygon_0 (i := 14) (r := (21, .getfield 174, 3)) rfl
theorem dL_isPolygon_24 : decode cL_isPolygon 24 = .ok (.irem, 1) := sl_row ag_isPolygon_0 gl_isPolygon_0 (i := 15) (r := (24, .irem, 1)) rfl
theorem dL_isPolygon_25 : decode cL_isPolygon 25 = .ok (.istore 5, 2) := sl_row ag_isPolygon_0 gl_isPolygon_0 (i := 16) (r := (25, .istore 5, 2)) rfl
theorem dL_isPolygon_27 : decode cL_isPolygon 27 = .ok (.iload_n 2, 1) := sl_row ag_isPolygon_0 gl_isPolygon_0 (i := 17) (r := (27, .iload_n 2, 1)) rfl
theorem dL_isPolygon_28 : decode cL_isPolygon 28 = .ok (.aload_n 0, 1) := sl_row ag_isPolygon_0 gl_isPolygon_0 (i := 18) (r := (28, .aload_n 0, 1)) rfl
theorem dL_isPolygon_29 : decode cL_isPolygon 29 = .ok (.getfield 26, 3) := sl_row ag_isPolygon_0 gl_isPolygon_0 (i := 19) (r := (29, .getfield 26, 3)) rfl
theorem dL_isPolygon_32 : decode cL_isPolygon 32 = .ok (.iload 4, 2) := sl_row ag_isPolygon_0 gl_isPolygon_0 (i := 20) (r := (32, .iload 4, 2)) rfl
theorem dL_isPolygon_34 : decode cL_isPolygon 34 = .ok (.iaload, 1) := sl_row ag_isPolygon_0 gl_isPolygon_0 (i := 21) (r := (34, .iaload, 1)) rfl
theorem dL_isPolygon_35 : decode cL_isPolygon 35 = .ok (.aload_n 0, 1) := sl_row ag_isPolygon_0 gl_isPolygon_0 (i := 22) (r := (35, .aload_n 0, 1)) rfl
theorem dL_isPolygon_36 : decode cL_isPolygon 36 = .ok (.getfield 29, 3) := sl_row ag_isPolygon_0 gl_isPolygon_0 (i := 23) (r := (36, .getfield 29, 3)) rfl
theorem dL_isPolygon_39 : decode cL_isPolygon 39 = .ok (.iload 5, 2) := sl_row ag_isPolygon_0 gl_isPolygon_0 (i := 24) (r := (39, .iload 5, 2)) rfl
theorem dL_isPolygon_41 : decode cL_isPolygon 41 = .ok (.iaload, 1) := sl_row ag_isPolygon_0 gl_isPolygon_0 (i := 25) (r := (41, .iaload, 1)) rfl
theorem dL_isPolygon_42 : decode cL_isPolygon 42 = .ok (.imul, 1) := sl_row ag_isPolygon_0 gl_isPolygon_0 (i := 26) (r := (42, .imul, 1)) rfl
theorem dL_isPolygon_43 : decode cL_isPolygon 43 = .ok (.aload_n 0, 1) := sl_row ag_isPolygon_0 gl_isPolygon_0 (i := 27) (r := (43, .aload_n 0, 1)) rfl
theorem dL_isPolygon_44 : decode cL_isPolygon 44 = .ok (.getfield 29, 3) := sl_row ag_isPolygon_0 gl_isPolygon_0 (i := 28) (r := (44, .getfield 29, 3)) rfl
theorem dL_isPolygon_47 : decode cL_isPolygon 47 = .ok (.iload 4, 2) := sl_row ag_isPolygon_0 gl_isPolygon_0 (i := 29) (r := (47, .iload 4, 2)) rfl
theorem dL_isPolygon_49 : decode cL_isPolygon 49 = .ok (.iaload, 1) := sl_row ag_isPolygon_0 gl_isPolygon_0 (i := 30) (r := (49, .iaload, 1)) rfl
theorem dL_isPolygon_50 : decode cL_isPolygon 50 = .ok (.aload_n 0, 1) := sl_row ag_isPolygon_0 gl_isPolygon_0 (i := 31) (r := (50, .aload_n 0, 1)) rfl
theorem dL_isPolygon_51 : decode cL_isPolygon 51 = .ok (.getfield 26, 3) := sl_row ag_isPolygon_0 gl_isPolygon_0 (i := 32) (r := (51, .getfield 26, 3)) rfl
theorem dL_isPolygon_54 : decode cL_isPolygon 54 = .ok (.iload 5, 2) := sl_row ag_isPolygon_0 gl_isPolygon_0 (i := 33) (r := (54, .iload 5, 2)) rfl
theorem dL_isPolygon_56 : decode cL_isPolygon 56 = .ok (.iaload, 1) := sl_row ag_isPolygon_0 gl_isPolygon_0 (i := 34) (r := (56, .iaload, 1)) rfl
theorem dL_isPolygon_57 : decode cL_isPolygon 57 = .ok (.imul, 1) := sl_row ag_isPolygon_0 gl_isPolygon_0 (i := 35) (r := (57, .imul, 1)) rfl
theorem dL_isPolygon_58 : decode cL_isPolygon 58 = .ok (.isub, 1) := sl_row ag_isPolygon_0 gl_isPolygon_0 (i := 36) (r := (58, .isub, 1)) rfl
theorem dL_isPolygon_59 : decode cL_isPolygon 59 = .ok (.iadd, 1) := sl_row ag_isPolygon_0 gl_isPolygon_0 (i := 37) (r := (59, .iadd, 1)) rfl
theorem dL_isPolygon_60 : decode cL_isPolygon 60 = .ok (.istore_n 2, 1) := sl_row ag_isPolygon_0 gl_isPolygon_0 (i := 38) (r := (60, .istore_n 2, 1)) rfl
theorem dL_isPolygon_61 : decode cL_isPolygon 61 = .ok (.iload_n 3, 1) := sl_row ag_isPolygon_0 gl_isPolygon_0 (i := 39) (r := (61, .iload_n 3, 1)) rfl
theorem dL_isPolygon_62 : decode cL_isPolygon 62 = .ok (.aload_n 0, 1) := sl_row ag_isPolygon_0 gl_isPolygon_0 (i := 40) (r := (62, .aload_n 0, 1)) rfl
theorem dL_isPolygon_63 : decode cL_isPolygon 63 = .ok (.getfield 26, 3) := sl_row ag_isPolygon_0 gl_isPolygon_0 (i := 41) (r := (63, .getfield 26, 3)) rfl
def ck_isPolygon_1 : ByteArray := .mk #[0x00, 0x1a, 0x15, 0x05, 0x2e, 0x2a, 0xb4, 0x00, 0x1a, 0x15, 0x04, 0x2e, 0x64, 0x2a, 0xb4, 0x00, 0x1d, 0x15, 0x05, 0x2e, 0x2a, 0xb4, 0x00, 0x1d, 0x15, 0x04, 0x2e, 0x64, 0xb8, 0x00, 0x51, 0x60, 0x3e, 0x84, 0x04, 0x01, 0xa7, 0xff, 0xa3, 0x2a, 0xb4, 0x00, 0x0a, 0x1b, 0xb6, 0x00, 0xb7, 0x1c, 0xa0, 0x00, 0x1c, 0x2a, 0xb4, 0x00, 0x0a, 0x1b, 0xb6, 0x00, 0xba, 0x2a, 0xb4, 0x00, 0x0a, 0xb6, 0x00, 0x44, 0xa0, 0x00]
set_option maxRecDepth 20000 in
theorem ag_isPolygon_1 : ∀ q, agB cL_isPolygon ck_isPolygon_1 (64 + q) q := agB_of 64 (by decide +kernel)
def tl_isPolygon_1 : List (Nat × Instr × Nat) := [(2, .iload 5, 2), (4, .iaload, 1), (5, .aload_n 0, 1), (6, .getfield 26, 3), (9, .iload 4, 2), (11, .iaload, 1), (12, .isub, 1), (13, .aload_n 0, 1), (14, .getfield 29, 3), (17, .iload 5, 2), (19, .iaload, 1), (20, .aload_n 0, 1), (21, .getfield 29, 3), (24, .iload 4, 2), (26, .iaload, 1), (27, .isub, 1), (28, .invokestatic 81, 3), (31, .iadd, 1), (32, .istore_n 3, 1), (33, .iinc 4 1, 3), (36, .goto (-93), 3), (39, .aload_n 0, 1), (40, .getfield 10, 3), (43, .iload_n 1, 1), (44, .invokevirtual 183, 3), (47, .iload_n 2, 1), (48, .if_icmp .ne 28, 3), (51, .aload_n 0, 1), (52, .getfield 10, 3), (55, .iload_n 1, 1), (56, .invokevirtual 186, 3), (59, .aload_n 0, 1), (60, .getfield 10, 3), (63, .invokevirtual 68, 3)]
theorem gl_isPolygon_1 : tl_isPolygon_1.all (fun r => opB ck_isPolygon_1 r.1 && decide (decode ck_isPolygon_1 r.1 = .ok (r.2.1, r.2.2))) = true := by decide +kernel
theorem dL_isPolygon_66 : decode cL_isPolygon 66 = .ok (.iload 5, 2) := sl_row ag_isPolygon_1 gl_isPolygon_1 (i := 0) (r := (2, .iload 5, 2)) rfl
theorem dL_isPolygon_68 : decode cL_isPolygon 68 = .ok (.iaload, 1) := sl_row ag_isPolygon_1 gl_isPolygon_1 (i := 1) (r := (4, .iaload, 1)) rfl
theorem dL_isPolygon_69 : decode cL_isPolygon 69 = .ok (.aload_n 0, 1) := sl_row ag_isPolygon_1 gl_isPolygon_1 (i := 2) (r := (5, .aload_n 0, 1)) rfl
theorem dL_isPolygon_70 : decode cL_isPolygon 70 = .ok (.getfield 26, 3) := sl_row ag_isPolygon_1 gl_isPolygon_1 (i := 3) (r := (6, .getfield 26, 3)) rfl
theorem dL_isPolygon_73 : decode cL_isPolygon 73 = .ok (.iload 4, 2) := sl_row ag_isPolygon_1 gl_isPolygon_1 (i := 4) (r := (9, .iload 4, 2)) rfl
theorem dL_isPolygon_75 : decode cL_isPolygon 75 = .ok (.iaload, 1) := sl_row ag_isPolygon_1 gl_isPolygon_1 (i := 5) (r := (11, .iaload, 1)) rfl
theorem dL_isPolygon_76 : decode cL_isPolygon 76 = .ok (.isub, 1) := sl_row ag_isPolygon_1 gl_isPolygon_1 (i := 6) (r := (12, .isub, 1)) rfl
theorem dL_isPolygon_77 : decode cL_isPolygon 77 = .ok (.aload_n 0, 1) := sl_row ag_isPolygon_1 gl_isPolygon_1 (i := 7) (r := (13, .aload_n 0, 1)) rfl
theorem dL_isPolygon_78 : decode cL_isPolygon 78 = .ok (.getfield 29, 3) := sl_row ag_isPolygon_1 gl_isPolygon_1 (i := 8) (r := (14, .getfield 29, 3)) rfl
theorem dL_isPolygon_81 : decode cL_isPolygon 81 = .ok (.iload 5, 2) := sl_row ag_isPolygon_1 gl_isPolygon_1 (i := 9) (r := (17, .iload 5, 2)) rfl
theorem dL_isPolygon_83 : decode cL_isPolygon 83 = .ok (.iaload, 1) := sl_row ag_isPolygon_1 gl_isPolygon_1 (i := 10) (r := (19, .iaload, 1)) rfl
theorem dL_isPolygon_84 : decode cL_isPolygon 84 = .ok (.aload_n 0, 1) := sl_row ag_isPolygon_1 gl_isPolygon_1 (i := 11) (r := (20, .aload_n 0, 1)) rfl
theorem dL_isPolygon_85 : decode cL_isPolygon 85 = .ok (.getfield 29, 3) := sl_row ag_isPolygon_1 gl_isPolygon_1 (i := 12) (r := (21, .getfield 29, 3)) rfl
theorem dL_isPolygon_88 : decode cL_isPolygon 88 = .ok (.iload 4, 2) := sl_row ag_isPolygon_1 gl_isPolygon_1 (i := 13) (r := (24, .iload 4, 2)) rfl
theorem dL_isPolygon_90 : decode cL_isPolygon 90 = .ok (.iaload, 1) := sl_row ag_isPolygon_1 gl_isPolygon_1 (i := 14) (r := (26, .iaload, 1)) rfl
theorem dL_isPolygon_91 : decode cL_isPolygon 91 = .ok (.isub, 1) := sl_row ag_isPolygon_1 gl_isPolygon_1 (i := 15) (r := (27, .isub, 1)) rfl
theorem dL_isPolygon_92 : decode cL_isPolygon 92 = .ok (.invokestatic 81, 3) := sl_row ag_isPolygon_1 gl_isPolygon_1 (i := 16) (r := (28, .invokestatic 81, 3)) rfl
theorem dL_isPolygon_95 : decode cL_isPolygon 95 = .ok (.iadd, 1) := sl_row ag_isPolygon_1 gl_isPolygon_1 (i := 17) (r := (31, .iadd, 1)) rfl
theorem dL_isPolygon_96 : decode cL_isPolygon 96 = .ok (.istore_n 3, 1) := sl_row ag_isPolygon_1 gl_isPolygon_1 (i := 18) (r := (32, .istore_n 3, 1)) rfl
theorem dL_isPolygon_97 : decode cL_isPolygon 97 = .ok (.iinc 4 1, 3) := sl_row ag_isPolygon_1 gl_isPolygon_1 (i := 19) (r := (33, .iinc 4 1, 3)) rfl
theorem dL_isPolygon_100 : decode cL_isPolygon 100 = .ok (.goto (-93), 3) := sl_row ag_isPolygon_1 gl_isPolygon_1 (i := 20) (r := (36, .goto (-93), 3)) rfl
theorem dL_isPolygon_103 : decode cL_isPolygon 103 = .ok (.aload_n 0, 1) := sl_row ag_isPolygon_1 gl_isPolygon_1 (i := 21) (r := (39, .aload_n 0, 1)) rfl
theorem dL_isPolygon_104 : decode cL_isPolygon 104 = .ok (.getfield 10, 3) := sl_row ag_isPolygon_1 gl_isPolygon_1 (i := 22) (r := (40, .getfield 10, 3)) rfl
theorem dL_isPolygon_107 : decode cL_isPolygon 107 = .ok (.iload_n 1, 1) := sl_row ag_isPolygon_1 gl_isPolygon_1 (i := 23) (r := (43, .iload_n 1, 1)) rfl
theorem dL_isPolygon_108 : decode cL_isPolygon 108 = .ok (.invokevirtual 183, 3) := sl_row ag_isPolygon_1 gl_isPolygon_1 (i := 24) (r := (44, .invokevirtual 183, 3)) rfl
theorem dL_isPolygon_111 : decode cL_isPolygon 111 = .ok (.iload_n 2, 1) := sl_row ag_isPolygon_1 gl_isPolygon_1 (i := 25) (r := (47, .iload_n 2, 1)) rfl
theorem dL_isPolygon_112 : decode cL_isPolygon 112 = .ok (.if_icmp .ne 28, 3) := sl_row ag_isPolygon_1 gl_isPolygon_1 (i := 26) (r := (48, .if_icmp .ne 28, 3)) rfl
theorem dL_isPolygon_115 : decode cL_isPolygon 115 = .ok (.aload_n 0, 1) := sl_row ag_isPolygon_1 gl_isPolygon_1 (i := 27) (r := (51, .aload_n 0, 1)) rfl
theorem dL_isPolygon_116 : decode cL_isPolygon 116 = .ok (.getfield 10, 3) := sl_row ag_isPolygon_1 gl_isPolygon_1 (i := 28) (r := (52, .getfield 10, 3)) rfl
theorem dL_isPolygon_119 : decode cL_isPolygon 119 = .ok (.iload_n 1, 1) := sl_row ag_isPolygon_1 gl_isPolygon_1 (i := 29) (r := (55, .iload_n 1, 1)) rfl
theorem dL_isPolygon_120 : decode cL_isPolygon 120 = .ok (.invokevirtual 186, 3) := sl_row ag_isPolygon_1 gl_isPolygon_1 (i := 30) (r := (56, .invokevirtual 186, 3)) rfl
theorem dL_isPolygon_123 : decode cL_isPolygon 123 = .ok (.aload_n 0, 1) := sl_row ag_isPolygon_1 gl_isPolygon_1 (i := 31) (r := (59, .aload_n 0, 1)) rfl
theorem dL_isPolygon_124 : decode cL_isPolygon 124 = .ok (.getfield 10, 3) := sl_row ag_isPolygon_1 gl_isPolygon_1 (i := 32) (r := (60, .getfield 10, 3)) rfl
theorem dL_isPolygon_127 : decode cL_isPolygon 127 = .ok (.invokevirtual 68, 3) := sl_row ag_isPolygon_1 gl_isPolygon_1 (i := 33) (r := (63, .invokevirtual 68, 3)) rfl
def ck_isPolygon_2 : ByteArray := .mk #[0x00, 0x44, 0xa0, 0x00, 0x0a, 0x2a, 0xb6, 0x00, 0x77, 0x9a, 0x00, 0x05, 0x03, 0xac, 0x03, 0x36, 0x04, 0x15, 0x04, 0x2a, 0xb4, 0x00, 0xae, 0xa2, 0x00, 0x23, 0x2a, 0xb4, 0x00, 0x0a, 0x2a, 0xb4, 0x00, 0x1a, 0x15, 0x04, 0x2e, 0x2a, 0xb4, 0x00, 0x1d, 0x15, 0x04, 0x2e, 0xb6, 0x00, 0x55, 0x9c, 0x00, 0x05, 0x03, 0xac, 0x84, 0x04, 0x01, 0xa7, 0xff, 0xda, 0x2a, 0xb4, 0x00, 0x0a, 0x1b, 0xb6, 0x00, 0xbd, 0x9a, 0x00]
set_option maxRecDepth 20000 in
theorem ag_isPolygon_2 : ∀ q, agB cL_isPolygon ck_isPolygon_2 (128 + q) q := agB_of 128 (by decide +kernel)
def tl_isPolygon_2 : List (Nat × Instr × Nat) := [(2, .if_icmp .ne 10, 3), (5, .aload_n 0, 1), (6, .invokevirtual 119, 3), (9, .ifCond .ne 5, 3), (12, .iconst 0, 1), (13, .ireturn, 1), (14, .iconst 0, 1), (15, .istore 4, 2), (17, .iload 4, 2), (19, .aload_n 0, 1), (20, .getfield 174, 3), (23, .if_icmp .ge 35, 3), (26, .aload_n 0, 1), (27, .getfield 10, 3), (30, .aload_n 0, 1), (31, .getfield 26, 3), (34, .iload 4, 2), (36, .iaload, 1), (37, .aload_n 0, 1), (38, .getfield 29, 3), (41, .iload 4, 2), (43, .iaload, 1), (44, .invokevirtual 85, 3), (47, .ifCond .ge 5, 3), (50, .iconst 0, 1), (51, .ireturn, 1), (52, .iinc 4 1, 3), (55, .goto (-38), 3), (58, .aload_n 0, 1), (59, .getfield 10, 3), (62, .iload_n 1, 1), (63, .invokevirtual 189, 3)]
theorem gl_isPolygon_2 : tl_isPolygon_2.all (fun r => opB ck_isPolygon_2 r.1 && decide (decode ck_isPolygon_2 r.1 = .ok (r.2.1, r.2.2))) = true := by decide +kernel
theorem dL_isPolygon_130 : decode cL_isPolygon 130 = .ok (.if_icmp .ne 10, 3) := sl_row ag_isPolygon_2 gl_isPolygon_2 (i := 0) (r := (2, .if_icmp .ne 10, 3)) rfl
theorem dL_isPolygon_133 : decode cL_isPolygon 133 = .ok (.aload_n 0, 1) := sl_row ag_isPolygon_2 gl_isPolygon_2 (i := 1) (r := (5, .aload_n 0, 1)) rfl
theorem dL_isPolygon_134 : decode cL_isPolygon 134 = .ok (.invokevirtual 119, 3) := sl_row ag_isPolygon_2 gl_isPolygon_2 (i := 2) (r := (6, .invokevirtual 119, 3)) rfl
theorem dL_isPolygon_137 : decode cL_isPolygon 137 = .ok (.ifCond .ne 5, 3) := sl_row ag_isPolygon_2 gl_isPolygon_2 (i := 3) (r := (9, .ifCond .ne 5, 3)) rfl
theorem dL_isPolygon_140 : decode cL_isPolygon 140 = .ok (.iconst 0, 1) := sl_row ag_isPolygon_2 gl_isPolygon_2 (i := 4) (r := (12, .iconst 0, 1)) rfl
theorem dL_isPolygon_141 : decode cL_isPolygon 141 = .ok (.ireturn, 1) := sl_row ag_isPolygon_2 gl_isPolygon_2 (i := 5) (r := (13, .ireturn, 1)) rfl
theorem dL_isPolygon_142 : decode cL_isPolygon 142 = .ok (.iconst 0, 1) := sl_row ag_isPolygon_2 gl_isPolygon_2 (i := 6) (r := (14, .iconst 0, 1)) rfl
theorem dL_isPolygon_143 : decode cL_isPolygon 143 = .ok (.istore 4, 2) := sl_row ag_isPolygon_2 gl_isPolygon_2 (i := 7) (r := (15, .istore 4, 2)) rfl
theorem dL_isPolygon_145 : decode cL_isPolygon 145 = .ok (.iload 4, 2) := sl_row ag_isPolygon_2 gl_isPolygon_2 (i := 8) (r := (17, .iload 4, 2)) rfl
theorem dL_isPolygon_147 : decode cL_isPolygon 147 = .ok (.aload_n 0, 1) := sl_row ag_isPolygon_2 gl_isPolygon_2 (i := 9) (r := (19, .aload_n 0, 1)) rfl
theorem dL_isPolygon_148 : decode cL_isPolygon 148 = .ok (.getfield 174, 3) := sl_row ag_isPolygon_2 gl_isPolygon_2 (i := 10) (r := (20, .getfield 174, 3)) rfl
theorem dL_isPolygon_151 : decode cL_isPolygon 151 = .ok (.if_icmp .ge 35, 3) := sl_row ag_isPolygon_2 gl_isPolygon_2 (i := 11) (r := (23, .if_icmp .ge 35, 3)) rfl
theorem dL_isPolygon_154 : decode cL_isPolygon 154 = .ok (.aload_n 0, 1) := sl_row ag_isPolygon_2 gl_isPolygon_2 (i := 12) (r := (26, .aload_n 0, 1)) rfl
theorem dL_isPolygon_155 : decode cL_isPolygon 155 = .ok (.getfield 10, 3) := sl_row ag_isPolygon_2 gl_isPolygon_2 (i := 13) (r := (27, .getfield 10, 3)) rfl
theorem dL_isPolygon_158 : decode cL_isPolygon 158 = .ok (.aload_n 0, 1) := sl_row ag_isPolygon_2 gl_isPolygon_2 (i := 14) (r := (30, .aload_n 0, 1)) rfl
theorem dL_isPolygon_159 : decode cL_isPolygon 159 = .ok (.getfield 26, 3) := sl_row ag_isPolygon_2 gl_isPolygon_2 (i := 15) (r := (31, .getfield 26, 3)) rfl
theorem dL_isPolygon_162 : decode cL_isPolygon 162 = .ok (.iload 4, 2) := sl_row ag_isPolygon_2 gl_isPolygon_2 (i := 16) (r := (34, .iload 4, 2)) rfl
theorem dL_isPolygon_164 : decode cL_isPolygon 164 = .ok (.iaload, 1) := sl_row ag_isPolygon_2 gl_isPolygon_2 (i := 17) (r := (36, .iaload, 1)) rfl
theorem dL_isPolygon_165 : decode cL_isPolygon 165 = .ok (.aload_n 0, 1) := sl_row ag_isPolygon_2 gl_isPolygon_2 (i := 18) (r := (37, .aload_n 0, 1)) rfl
theorem dL_isPolygon_166 : decode cL_isPolygon 166 = .ok (.getfield 29, 3) := sl_row ag_isPolygon_2 gl_isPolygon_2 (i := 19) (r := (38, .getfield 29, 3)) rfl
theorem dL_isPolygon_169 : decode cL_isPolygon 169 = .ok (.iload 4, 2) := sl_row ag_isPolygon_2 gl_isPolygon_2 (i := 20) (r := (41, .iload 4, 2)) rfl
theorem dL_isPolygon_171 : decode cL_isPolygon 171 = .ok (.iaload, 1) := sl_row ag_isPolygon_2 gl_isPolygon_2 (i := 21) (r := (43, .iaload, 1)) rfl
theorem dL_isPolygon_172 : decode cL_isPolygon 172 = .ok (.invokevirtual 85, 3) := sl_row ag_isPolygon_2 gl_isPolygon_2 (i := 22) (r := (44, .invokevirtual 85, 3)) rfl
theorem dL_isPolygon_175 : decode cL_isPolygon 175 = .ok (.ifCond .ge 5, 3) := sl_row ag_isPolygon_2 gl_isPolygon_2 (i := 23) (r := (47, .ifCond .ge 5, 3)) rfl
theorem dL_isPolygon_178 : decode cL_isPolygon 178 = .ok (.iconst 0, 1) := sl_row ag_isPolygon_2 gl_isPolygon_2 (i := 24) (r := (50, .iconst 0, 1)) rfl
theorem dL_isPolygon_179 : decode cL_isPolygon 179 = .ok (.ireturn, 1) := sl_row ag_isPolygon_2 gl_isPolygon_2 (i := 25) (r := (51, .ireturn, 1)) rfl
theorem dL_isPolygon_180 : decode cL_isPolygon 180 = .ok (.iinc 4 1, 3) := sl_row ag_isPolygon_2 gl_isPolygon_2 (i := 26) (r := (52, .iinc 4 1, 3)) rfl
theorem dL_isPolygon_183 : decode cL_isPolygon 183 = .ok (.goto (-38), 3) := sl_row ag_isPolygon_2 gl_isPolygon_2 (i := 27) (r := (55, .goto (-38), 3)) rfl
theorem dL_isPolygon_186 : decode cL_isPolygon 186 = .ok (.aload_n 0, 1) := sl_row ag_isPolygon_2 gl_isPolygon_2 (i := 28) (r := (58, .aload_n 0, 1)) rfl
theorem dL_isPolygon_187 : decode cL_isPolygon 187 = .ok (.getfield 10, 3) := sl_row ag_isPolygon_2 gl_isPolygon_2 (i := 29) (r := (59, .getfield 10, 3)) rfl
theorem dL_isPolygon_190 : decode cL_isPolygon 190 = .ok (.iload_n 1, 1) := sl_row ag_isPolygon_2 gl_isPolygon_2 (i := 30) (r := (62, .iload_n 1, 1)) rfl
theorem dL_isPolygon_191 : decode cL_isPolygon 191 = .ok (.invokevirtual 189, 3) := sl_row ag_isPolygon_2 gl_isPolygon_2 (i := 31) (r := (63, .invokevirtual 189, 3)) rfl
def ck_isPolygon_3 : ByteArray := .mk #[0x00, 0xbd, 0x9a, 0x00, 0x08, 0x2a, 0xb6, 0x00, 0xc0, 0xac, 0x2a, 0xb4, 0x00, 0x0a, 0x1b, 0xb6, 0x00, 0xc3, 0x36, 0x04, 0x2a, 0xb6, 0x00, 0xc0, 0x9a, 0x00, 0x2c, 0x1c, 0xb8, 0x00, 0x2b, 0x05, 0x15, 0x04, 0x68, 0x1d, 0x60, 0x05, 0x64, 0xa0, 0x00, 0x1d, 0x2a, 0xb4, 0x00, 0x0a, 0x1b, 0xb6, 0x00, 0xc6, 0x1d, 0xa0, 0x00, 0x11, 0x2a, 0xb4, 0x00, 0x0a, 0xb6, 0x00, 0x58, 0x1c, 0xb8, 0x00, 0x2b, 0xa2, 0x00, 0x05]
set_option maxRecDepth 20000 in
theorem ag_isPolygon_3 : ∀ q, agB cL_isPolygon ck_isPolygon_3 (192 + q) q := agB_of 192 (by decide +kernel)
def tl_isPolygon_3 : List (Nat × Instr × Nat) := [(2, .ifCond .ne 8, 3), (5, .aload_n 0, 1), (6, .invokevirtual 192, 3), (9, .ireturn, 1), (10, .aload_n 0, 1), (11, .getfield 10, 3), (14, .iload_n 1, 1), (15, .invokevirtual 195, 3), (18, .istore 4, 2), (20, .aload_n 0, 1), (21, .invokevirtual 192, 3), (24, .ifCond .ne 44, 3), (27, .iload_n 2, 1), (28, .invokestatic 43, 3), (31, .iconst 2, 1), (32, .iload 4, 2), (34, .imul, 1), (35, .iload_n 3, 1), (36, .iadd, 1), (37, .iconst 2, 1), (38, .isub, 1), (39, .if_icmp .ne 29, 3), (42, .aload_n 0, 1), (43, .getfield 10, 3), (46, .iload_n 1, 1), (47, .invokevirtual 198, 3), (50, .iload_n 3, 1), (51, .if_icmp .ne 17, 3), (54, .aload_n 0, 1), (55, .getfield 10, 3), (58, .invokevirtual 88, 3), (61, .iload_n 2, 1), (62, .invokestatic 43, 3)]
theorem gl_isPolygon_3 : tl_isPolygon_3.all (fun r => opB ck_isPolygon_3 r.1 && decide (decode ck_isPolygon_3 r.1 = .ok (r.2.1, r.2.2))) = true := by decide +kernel
theorem dL_isPolygon_194 : decode cL_isPolygon 194 = .ok (.ifCond .ne 8, 3) := sl_row ag_isPolygon_3 gl_isPolygon_3 (i := 0) (r := (2, .ifCond .ne 8, 3)) rfl
theorem dL_isPolygon_197 : decode cL_isPolygon 197 = .ok (.aload_n 0, 1) := sl_row ag_isPolygon_3 gl_isPolygon_3 (i := 1) (r := (5, .aload_n 0, 1)) rfl
theorem dL_isPolygon_198 : decode cL_isPolygon 198 = .ok (.invokevirtual 192, 3) := sl_row ag_isPolygon_3 gl_isPolygon_3 (i := 2) (r := (6, .invokevirtual 192, 3)) rfl
theorem dL_isPolygon_201 : decode cL_isPolygon 201 = .ok (.ireturn, 1) := sl_row ag_isPolygon_3 gl_isPolygon_3 (i := 3) (r := (9, .ireturn, 1)) rfl
theorem dL_isPolygon_202 : decode cL_isPolygon 202 = .ok (.aload_n 0, 1) := sl_row ag_isPolygon_3 gl_isPolygon_3 (i := 4) (r := (10, .aload_n 0, 1)) rfl
theorem dL_isPolygon_203 : decode cL_isPolygon 203 = .ok (.getfield 10, 3) := sl_row ag_isPolygon_3 gl_isPolygon_3 (i := 5) (r := (11, .getfield 10, 3)) rfl
theorem dL_isPolygon_206 : decode cL_isPolygon 206 = .ok (.iload_n 1, 1) := sl_row ag_isPolygon_3 gl_isPolygon_3 (i := 6) (r := (14, .iload_n 1, 1)) rfl
theorem dL_isPolygon_207 : decode cL_isPolygon 207 = .ok (.invokevirtual 195, 3) := sl_row ag_isPolygon_3 gl_isPolygon_3 (i := 7) (r := (15, .invokevirtual 195, 3)) rfl
theorem dL_isPolygon_210 : decode cL_isPolygon 210 = .ok (.istore 4, 2) := sl_row ag_isPolygon_3 gl_isPolygon_3 (i := 8) (r := (18, .istore 4, 2)) rfl
theorem dL_isPolygon_212 : decode cL_isPolygon 212 = .ok (.aload_n 0, 1) := sl_row ag_isPolygon_3 gl_isPolygon_3 (i := 9) (r := (20, .aload_n 0, 1)) rfl
theorem dL_isPolygon_213 : decode cL_isPolygon 213 = .ok (.invokevirtual 192, 3) := sl_row ag_isPolygon_3 gl_isPolygon_3 (i := 10) (r := (21, .invokevirtual 192, 3)) rfl
theorem dL_isPolygon_216 : decode cL_isPolygon 216 = .ok (.ifCond .ne 44, 3) := sl_row ag_isPolygon_3 gl_isPolygon_3 (i := 11) (r := (24, .ifCond .ne 44, 3)) rfl
theorem dL_isPolygon_219 : decode cL_isPolygon 219 = .ok (.iload_n 2, 1) := sl_row ag_isPolygon_3 gl_isPolygon_3 (i := 12) (r := (27, .iload_n 2, 1)) rfl
theorem dL_isPolygon_220 : decode cL_isPolygon 220 = .ok (.invokestatic 43, 3) := sl_row ag_isPolygon_3 gl_isPolygon_3 (i := 13) (r := (28, .invokestatic 43, 3)) rfl
theorem dL_isPolygon_223 : decode cL_isPolygon 223 = .ok (.iconst 2, 1) := sl_row ag_isPolygon_3 gl_isPolygon_3 (i := 14) (r := (31, .iconst 2, 1)) rfl
theorem dL_isPolygon_224 : decode cL_isPolygon 224 = .ok (.iload 4, 2) := sl_row ag_isPolygon_3 gl_isPolygon_3 (i := 15) (r := (32, .iload 4, 2)) rfl
theorem dL_isPolygon_226 : decode cL_isPolygon 226 = .ok (.imul, 1) := sl_row ag_isPolygon_3 gl_isPolygon_3 (i := 16) (r := (34, .imul, 1)) rfl
theorem dL_isPolygon_227 : decode cL_isPolygon 227 = .ok (.iload_n 3, 1) := sl_row ag_isPolygon_3 gl_isPolygon_3 (i := 17) (r := (35, .iload_n 3, 1)) rfl
theorem dL_isPolygon_228 : decode cL_isPolygon 228 = .ok (.iadd, 1) := sl_row ag_isPolygon_3 gl_isPolygon_3 (i := 18) (r := (36, .iadd, 1)) rfl
theorem dL_isPolygon_229 : decode cL_isPolygon 229 = .ok (.iconst 2, 1) := sl_row ag_isPolygon_3 gl_isPolygon_3 (i := 19) (r := (37, .iconst 2, 1)) rfl
theorem dL_isPolygon_230 : decode cL_isPolygon 230 = .ok (.isub, 1) := sl_row ag_isPolygon_3 gl_isPolygon_3 (i := 20) (r := (38, .isub, 1)) rfl
theorem dL_isPolygon_231 : decode cL_isPolygon 231 = .ok (.if_icmp .ne 29, 3) := sl_row ag_isPolygon_3 gl_isPolygon_3 (i := 21) (r := (39, .if_icmp .ne 29, 3)) rfl
theorem dL_isPolygon_234 : decode cL_isPolygon 234 = .ok (.aload_n 0, 1) := sl_row ag_isPolygon_3 gl_isPolygon_3 (i := 22) (r := (42, .aload_n 0, 1)) rfl
theorem dL_isPolygon_235 : decode cL_isPolygon 235 = .ok (.getfield 10, 3) := sl_row ag_isPolygon_3 gl_isPolygon_3 (i := 23) (r := (43, .getfield 10, 3)) rfl
theorem dL_isPolygon_238 : decode cL_isPolygon 238 = .ok (.iload_n 1, 1) := sl_row ag_isPolygon_3 gl_isPolygon_3 (i := 24) (r := (46, .iload_n 1, 1)) rfl
theorem dL_isPolygon_239 : decode cL_isPolygon 239 = .ok (.invokevirtual 198, 3) := sl_row ag_isPolygon_3 gl_isPolygon_3 (i := 25) (r := (47, .invokevirtual 198, 3)) rfl
theorem dL_isPolygon_242 : decode cL_isPolygon 242 = .ok (.iload_n 3, 1) := sl_row ag_isPolygon_3 gl_isPolygon_3 (i := 26) (r := (50, .iload_n 3, 1)) rfl
theorem dL_isPolygon_243 : decode cL_isPolygon 243 = .ok (.if_icmp .ne 17, 3) := sl_row ag_isPolygon_3 gl_isPolygon_3 (i := 27) (r := (51, .if_icmp .ne 17, 3)) rfl
theorem dL_isPolygon_246 : decode cL_isPolygon 246 = .ok (.aload_n 0, 1) := sl_row ag_isPolygon_3 gl_isPolygon_3 (i := 28) (r := (54, .aload_n 0, 1)) rfl
theorem dL_isPolygon_247 : decode cL_isPolygon 247 = .ok (.getfield 10, 3) := sl_row ag_isPolygon_3 gl_isPolygon_3 (i := 29) (r := (55, .getfield 10, 3)) rfl
theorem dL_isPolygon_250 : decode cL_isPolygon 250 = .ok (.invokevirtual 88, 3) := sl_row ag_isPolygon_3 gl_isPolygon_3 (i := 30) (r := (58, .invokevirtual 88, 3)) rfl
theorem dL_isPolygon_253 : decode cL_isPolygon 253 = .ok (.iload_n 2, 1) := sl_row ag_isPolygon_3 gl_isPolygon_3 (i := 31) (r := (61, .iload_n 2, 1)) rfl
theorem dL_isPolygon_254 : decode cL_isPolygon 254 = .ok (.invokestatic 43, 3) := sl_row ag_isPolygon_3 gl_isPolygon_3 (i := 32) (r := (62, .invokestatic 43, 3)) rfl
def ck_isPolygon_4 : ByteArray := .mk #[0x2b, 0xa2, 0x00, 0x05, 0x03, 0xac, 0x03, 0x36, 0x05, 0x03, 0x36, 0x06, 0x15, 0x06, 0x2a, 0xb4, 0x00, 0x39, 0xa2, 0x00, 0x36, 0x15, 0x05, 0x2a, 0xb4, 0x00, 0x10, 0x15, 0x06, 0x2e, 0x9a, 0x00, 0x20, 0x2a, 0xb4, 0x00, 0x0a, 0x1b, 0x2a, 0xb4, 0x00, 0x14, 0x15, 0x06, 0x2e, 0x2a, 0xb4, 0x00, 0x17, 0x15, 0x06, 0x2e, 0xb6, 0x00, 0xc9, 0x9b, 0x00, 0x07, 0x04, 0xa7, 0x00, 0x04, 0x03, 0x60, 0x36, 0x05, 0x84, 0x06]
set_option maxRecDepth 20000 in
theorem ag_isPolygon_4 : ∀ q, agB cL_isPolygon ck_isPolygon_4 (256 + q) q := agB_of 256 (by decide +kernel)
def tl_isPolygon_4 : List (Nat × Instr × Nat) := [(1, .if_icmp .ge 5, 3), (4, .iconst 0, 1), (5, .ireturn, 1), (6, .iconst 0, 1), (7, .istore 5, 2), (9, .iconst 0, 1), (10, .istore 6, 2), (12, .iload 6, 2), (14, .aload_n 0, 1), (15, .getfield 57, 3), (18, .if_icmp .ge 54, 3), (21, .iload 5, 2), (23, .aload_n 0, 1), (24, .getfield 16, 3), (27, .iload 6, 2), (29, .iaload, 1), (30, .ifCond .ne 32, 3), (33, .aload_n 0, 1), (34, .getfield 10, 3), (37, .iload_n 1, 1), (38, .aload_n 0, 1), (39, .getfield 20, 3), (42, .iload 6, 2), (44, .iaload, 1), (45, .aload_n 0, 1), (46, .getfield 23, 3), (49, .iload 6, 2), (51, .iaload, 1), (52, .invokevirtual 201, 3), (55, .ifCond .lt 7, 3), (58, .iconst 1, 1), (59, .goto 4, 3), (62, .iconst 0, 1), (63, .iadd, 1)]
theorem gl_isPolygon_4 : tl_isPolygon_4.all (fun r => opB ck_isPolygon_4 r.1 && decide (decode ck_isPolygon_4 r.1 = .ok (r.2.1, r.2.2))) = true := by decide +kernel
theorem dL_isPolygon_257 : decode cL_isPolygon 257 = .ok (.if_icmp .ge 5, 3) := sl_row ag_isPolygon_4 gl_isPolygon_4 (i := 0) (r := (1, .if_icmp .ge 5, 3)) rfl
theorem dL_isPolygon_260 : decode cL_isPolygon 260 = .ok (.iconst 0, 1) := sl_row ag_isPolygon_4 gl_isPolygon_4 (i := 1) (r := (4, .iconst 0, 1)) rfl
theorem dL_isPolygon_261 : decode cL_isPolygon 261 = .ok (.ireturn, 1) := sl_row ag_isPolygon_4 gl_isPolygon_4 (i := 2) (r := (5, .ireturn, 1)) rfl
theorem dL_isPolygon_262 : decode cL_isPolygon 262 = .ok (.iconst 0, 1) := sl_row ag_isPolygon_4 gl_isPolygon_4 (i := 3) (r := (6, .iconst 0, 1)) rfl
theorem dL_isPolygon_263 : decode cL_isPolygon 263 = .ok (.istore 5, 2) := sl_row ag_isPolygon_4 gl_isPolygon_4 (i := 4) (r := (7, .istore 5, 2)) rfl
theorem dL_isPolygon_265 : decode cL_isPolygon 265 = .ok (.iconst 0, 1) := sl_row ag_isPolygon_4 gl_isPolygon_4 (i := 5) (r := (9, .iconst 0, 1)) rfl
theorem dL_isPolygon_266 : decode cL_isPolygon 266 = .ok (.istore 6, 2) := sl_row ag_isPolygon_4 gl_isPolygon_4 (i := 6) (r := (10, .istore 6, 2)) rfl
theorem dL_isPolygon_268 : decode cL_isPolygon 268 = .ok (.iload 6, 2) := sl_row ag_isPolygon_4 gl_isPolygon_4 (i := 7) (r := (12, .iload 6, 2)) rfl
theorem dL_isPolygon_270 : decode cL_isPolygon 270 = .ok (.aload_n 0, 1) := sl_row ag_isPolygon_4 gl_isPolygon_4 (i := 8) (r := (14, .aload_n 0, 1)) rfl
theorem dL_isPolygon_271 : decode cL_isPolygon 271 = .ok (.getfield 57, 3) := sl_row ag_isPolygon_4 gl_isPolygon_4 (i := 9) (r := (15, .getfield 57, 3)) rfl
theorem dL_isPolygon_274 : decode cL_isPolygon 274 = .ok (.if_icmp .ge 54, 3) := sl_row ag_isPolygon_4 gl_isPolygon_4 (i := 10) (r := (18, .if_icmp .ge 54, 3)) rfl
theorem dL_isPolygon_277 : decode cL_isPolygon 277 = .ok (.iload 5, 2) := sl_row ag_isPolygon_4 gl_isPolygon_4 (i := 11) (r := (21, .iload 5, 2)) rfl
theorem dL_isPolygon_279 : decode cL_isPolygon 279 = .ok (.aload_n 0, 1) := sl_row ag_isPolygon_4 gl_isPolygon_4 (i := 12) (r := (23, .aload_n 0, 1)) rfl
theorem dL_isPolygon_280 : decode cL_isPolygon 280 = .ok (.getfield 16, 3) := sl_row ag_isPolygon_4 gl_isPolygon_4 (i := 13) (r := (24, .getfield 16, 3)) rfl
theorem dL_isPolygon_283 : decode cL_isPolygon 283 = .ok (.iload 6, 2) := sl_row ag_isPolygon_4 gl_isPolygon_4 (i := 14) (r := (27, .iload 6, 2)) rfl
theorem dL_isPolygon_285 : decode cL_isPolygon 285 = .ok (.iaload, 1) := sl_row ag_isPolygon_4 gl_isPolygon_4 (i := 15) (r := (29, .iaload, 1)) rfl
theorem dL_isPolygon_286 : decode cL_isPolygon 286 = .ok (.ifCond .ne 32, 3) := sl_row ag_isPolygon_4 gl_isPolygon_4 (i := 16) (r := (30, .ifCond .ne 32, 3)) rfl
theorem dL_isPolygon_289 : decode cL_isPolygon 289 = .ok (.aload_n 0, 1) := sl_row ag_isPolygon_4 gl_isPolygon_4 (i := 17) (r := (33, .aload_n 0, 1)) rfl
theorem dL_isPolygon_290 : decode cL_isPolygon 290 = .ok (.getfield 10, 3) := sl_row ag_isPolygon_4 gl_isPolygon_4 (i := 18) (r := (34, .getfield 10, 3)) rfl
theorem dL_isPolygon_293 : decode cL_isPolygon 293 = .ok (.iload_n 1, 1) := sl_row ag_isPolygon_4 gl_isPolygon_4 (i := 19) (r := (37, .iload_n 1, 1)) rfl
theorem dL_isPolygon_294 : decode cL_isPolygon 294 = .ok (.aload_n 0, 1) := sl_row ag_isPolygon_4 gl_isPolygon_4 (i := 20) (r := (38, .aload_n 0, 1)) rfl
theorem dL_isPolygon_295 : decode cL_isPolygon 295 = .ok (.getfield 20, 3) := sl_row ag_isPolygon_4 gl_isPolygon_4 (i := 21) (r := (39, .getfield 20, 3)) rfl
theorem dL_isPolygon_298 : decode cL_isPolygon 298 = .ok (.iload 6, 2) := sl_row ag_isPolygon_4 gl_isPolygon_4 (i := 22) (r := (42, .iload 6, 2)) rfl
theorem dL_isPolygon_300 : decode cL_isPolygon 300 = .ok (.iaload, 1) := sl_row ag_isPolygon_4 gl_isPolygon_4 (i := 23) (r := (44, .iaload, 1)) rfl
theorem dL_isPolygon_301 : decode cL_isPolygon 301 = .ok (.aload_n 0, 1) := sl_row ag_isPolygon_4 gl_isPolygon_4 (i := 24) (r := (45, .aload_n 0, 1)) rfl
theorem dL_isPolygon_302 : decode cL_isPolygon 302 = .ok (.getfield 23, 3) := sl_row ag_isPolygon_4 gl_isPolygon_4 (i := 25) (r := (46, .getfield 23, 3)) rfl
theorem dL_isPolygon_305 : decode cL_isPolygon 305 = .ok (.iload 6, 2) := sl_row ag_isPolygon_4 gl_isPolygon_4 (i := 26) (r := (49, .iload 6, 2)) rfl
theorem dL_isPolygon_307 : decode cL_isPolygon 307 = .ok (.iaload, 1) := sl_row ag_isPolygon_4 gl_isPolygon_4 (i := 27) (r := (51, .iaload, 1)) rfl
theorem dL_isPolygon_308 : decode cL_isPolygon 308 = .ok (.invokevirtual 201, 3) := sl_row ag_isPolygon_4 gl_isPolygon_4 (i := 28) (r := (52, .invokevirtual 201, 3)) rfl
theorem dL_isPolygon_311 : decode cL_isPolygon 311 = .ok (.ifCond .lt 7, 3) := sl_row ag_isPolygon_4 gl_isPolygon_4 (i := 29) (r := (55, .ifCond .lt 7, 3)) rfl
theorem dL_isPolygon_314 : decode cL_isPolygon 314 = .ok (.iconst 1, 1) := sl_row ag_isPolygon_4 gl_isPolygon_4 (i := 30) (r := (58, .iconst 1, 1)) rfl
theorem dL_isPolygon_315 : decode cL_isPolygon 315 = .ok (.goto 4, 3) := sl_row ag_isPolygon_4 gl_isPolygon_4 (i := 31) (r := (59, .goto 4, 3)) rfl
theorem dL_isPolygon_318 : decode cL_isPolygon 318 = .ok (.iconst 0, 1) := sl_row ag_isPolygon_4 gl_isPolygon_4 (i := 32) (r := (62, .iconst 0, 1)) rfl
theorem dL_isPolygon_319 : decode cL_isPolygon 319 = .ok (.iadd, 1) := sl_row ag_isPolygon_4 gl_isPolygon_4 (i := 33) (r := (63, .iadd, 1)) rfl
def ck_isPolygon_5 : ByteArray := .mk #[0x36, 0x05, 0x84, 0x06, 0x01, 0xa7, 0xff, 0xc7, 0x2a, 0xb4, 0x00, 0x0a, 0x1b, 0x03, 0xb6, 0x00, 0xcc, 0x15, 0x05, 0xa0, 0x00, 0x1b, 0x2a, 0x1b, 0x1c, 0xb8, 0x00, 0x2b, 0xb6, 0x00, 0xcf, 0x99, 0x00, 0x0f, 0x2a, 0x1b, 0xb6, 0x00, 0xd2, 0x99, 0x00, 0x07, 0x04, 0xa7, 0x00, 0x04, 0x03, 0xac]
set_option maxRecDepth 20000 in
theorem ag_isPolygon_5 : ∀ q, agB cL_isPolygon ck_isPolygon_5 (320 + q) q := agB_of 320 (by decide +kernel)
def tl_isPolygon_5 : List (Nat × Instr × Nat) := [(0, .istore 5, 2), (2, .iinc 6 1, 3), (5, .goto (-57), 3), (8, .aload_n 0, 1), (9, .getfield 10, 3), (12, .iload_n 1, 1), (13, .iconst 0, 1), (14, .invokevirtual 204, 3), (17, .iload 5, 2), (19, .if_icmp .ne 27, 3), (22, .aload_n 0, 1), (23, .iload_n 1, 1), (24, .iload_n 2, 1), (25, .invokestatic 43, 3), (28, .invokevirtual 207, 3), (31, .ifCond .eq 15, 3), (34, .aload_n 0, 1), (35, .iload_n 1, 1), (36, .invokevirtual 210, 3), (39, .ifCond .eq 7, 3), (42, .iconst 1, 1), (43, .goto 4, 3), (46, .iconst 0, 1), (47, .ireturn, 1)]
theorem gl_isPolygon_5 : tl_isPolygon_5.all (fun r => opB ck_isPolygon_5 r.1 && decide (decode ck_isPolygon_5 r.1 = .ok (r.2.1, r.2.2))) = true := by decide +kernel
theorem dL_isPolygon_320 : decode cL_isPolygon 320 = .ok (.istore 5, 2) := sl_row ag_isPolygon_5 gl_isPolygon_5 (i := 0) (r := (0, .istore 5, 2)) rfl
theorem dL_isPolygon_322 : decode cL_isPolygon 322 = .ok (.iinc 6 1, 3) := sl_row ag_isPolygon_5 gl_isPolygon_5 (i := 1) (r := (2, .iinc 6 1, 3)) rfl
theorem dL_isPolygon_325 : decode cL_isPolygon 325 = .ok (.goto (-57), 3) := sl_row ag_isPolygon_5 gl_isPolygon_5 (i := 2) (r := (5, .goto (-57), 3)) rfl
theorem dL_isPolygon_328 : decode cL_isPolygon 328 = .ok (.aload_n 0, 1) := sl_row ag_isPolygon_5 gl_isPolygon_5 (i := 3) (r := (8, .aload_n 0, 1)) rfl
theorem dL_isPolygon_329 : decode cL_isPolygon 329 = .ok (.getfield 10, 3) := sl_row ag_isPolygon_5 gl_isPolygon_5 (i := 4) (r := (9, .getfield 10, 3)) rfl
theorem dL_isPolygon_332 : decode cL_isPolygon 332 = .ok (.iload_n 1, 1) := sl_row ag_isPolygon_5 gl_isPolygon_5 (i := 5) (r := (12, .iload_n 1, 1)) rfl
theorem dL_isPolygon_333 : decode cL_isPolygon 333 = .ok (.iconst 0, 1) := sl_row ag_isPolygon_5 gl_isPolygon_5 (i := 6) (r := (13, .iconst 0, 1)) rfl
theorem dL_isPolygon_334 : decode cL_isPolygon 334 = .ok (.invokevirtual 204, 3) := sl_row ag_isPolygon_5 gl_isPolygon_5 (i := 7) (r := (14, .invokevirtual 204, 3)) rfl
theorem dL_isPolygon_337 : decode cL_isPolygon 337 = .ok (.iload 5, 2) := sl_row ag_isPolygon_5 gl_isPolygon_5 (i := 8) (r := (17, .iload 5, 2)) rfl
theorem dL_isPolygon_339 : decode cL_isPolygon 339 = .ok (.if_icmp .ne 27, 3) := sl_row ag_isPolygon_5 gl_isPolygon_5 (i := 9) (r := (19, .if_icmp .ne 27, 3)) rfl
theorem dL_isPolygon_342 : decode cL_isPolygon 342 = .ok (.aload_n 0, 1) := sl_row ag_isPolygon_5 gl_isPolygon_5 (i := 10) (r := (22, .aload_n 0, 1)) rfl
theorem dL_isPolygon_343 : decode cL_isPolygon 343 = .ok (.iload_n 1, 1) := sl_row ag_isPolygon_5 gl_isPolygon_5 (i := 11) (r := (23, .iload_n 1, 1)) rfl
theorem dL_isPolygon_344 : decode cL_isPolygon 344 = .ok (.iload_n 2, 1) := sl_row ag_isPolygon_5 gl_isPolygon_5 (i := 12) (r := (24, .iload_n 2, 1)) rfl
theorem dL_isPolygon_345 : decode cL_isPolygon 345 = .ok (.invokestatic 43, 3) := sl_row ag_isPolygon_5 gl_isPolygon_5 (i := 13) (r := (25, .invokestatic 43, 3)) rfl
theorem dL_isPolygon_348 : decode cL_isPolygon 348 = .ok (.invokevirtual 207, 3) := sl_row ag_isPolygon_5 gl_isPolygon_5 (i := 14) (r := (28, .invokevirtual 207, 3)) rfl
theorem dL_isPolygon_351 : decode cL_isPolygon 351 = .ok (.ifCond .eq 15, 3) := sl_row ag_isPolygon_5 gl_isPolygon_5 (i := 15) (r := (31, .ifCond .eq 15, 3)) rfl
theorem dL_isPolygon_354 : decode cL_isPolygon 354 = .ok (.aload_n 0, 1) := sl_row ag_isPolygon_5 gl_isPolygon_5 (i := 16) (r := (34, .aload_n 0, 1)) rfl
theorem dL_isPolygon_355 : decode cL_isPolygon 355 = .ok (.iload_n 1, 1) := sl_row ag_isPolygon_5 gl_isPolygon_5 (i := 17) (r := (35, .iload_n 1, 1)) rfl
theorem dL_isPolygon_356 : decode cL_isPolygon 356 = .ok (.invokevirtual 210, 3) := sl_row ag_isPolygon_5 gl_isPolygon_5 (i := 18) (r := (36, .invokevirtual 210, 3)) rfl
theorem dL_isPolygon_359 : decode cL_isPolygon 359 = .ok (.ifCond .eq 7, 3) := sl_row ag_isPolygon_5 gl_isPolygon_5 (i := 19) (r := (39, .ifCond .eq 7, 3)) rfl
theorem dL_isPolygon_362 : decode cL_isPolygon 362 = .ok (.iconst 1, 1) := sl_row ag_isPolygon_5 gl_isPolygon_5 (i := 20) (r := (42, .iconst 1, 1)) rfl
theorem dL_isPolygon_363 : decode cL_isPolygon 363 = .ok (.goto 4, 3) := sl_row ag_isPolygon_5 gl_isPolygon_5 (i := 21) (r := (43, .goto 4, 3)) rfl
theorem dL_isPolygon_366 : decode cL_isPolygon 366 = .ok (.iconst 0, 1) := sl_row ag_isPolygon_5 gl_isPolygon_5 (i := 22) (r := (46, .iconst 0, 1)) rfl
theorem dL_isPolygon_367 : decode cL_isPolygon 367 = .ok (.ireturn, 1) := sl_row ag_isPolygon_5 gl_isPolygon_5 (i := 23) (r := (47, .ireturn, 1)) rfl
def ck_isTouched_0 : ByteArray := .mk #[0x2a, 0xb4, 0x00, 0x0a, 0xb6, 0x00, 0xd5, 0x3c, 0x03, 0x3d, 0x1c, 0x2a, 0xb4, 0x00, 0xae, 0xa2, 0x00, 0x44, 0x2a, 0xb4, 0x00, 0x0a, 0x2a, 0xb4, 0x00, 0x1a, 0x1c, 0x2e, 0x2a, 0xb4, 0x00, 0x1d, 0x1c, 0x2e, 0x2a, 0xb4, 0x00, 0x1a, 0x1c, 0x04, 0x60, 0x2a, 0xb4, 0x00, 0xae, 0x70, 0x2e, 0x2a, 0xb4, 0x00, 0x1d, 0x1c, 0x04, 0x60, 0x2a, 0xb4, 0x00, 0xae, 0x70, 0x2e, 0xb6, 0x00, 0xd8, 0x1c, 0x9f, 0x00, 0x0d, 0x1b]
set_option maxRecDepth 20000 in
theorem ag_isTouched_0 : ∀ q, agB cL_isTouched ck_isTouched_0 (0 + q) q := agB_of 0 (by decide +kernel)
def tl_isTouched_0 : List (Nat × Instr × Nat) := [(0, .aload_n 0, 1), (1, .getfield 10, 3), (4, .invokevirtual 213, 3), (7, .istore_n 1, 1), (8, .iconst 0, 1), (9, .istore_n 2, 1), (10, .iload_n 2, 1), (11, .aload_n 0, 1), (12, .getfield 174, 3), (15, .if_icmp .ge 68, 3), (18, .aload_n 0, 1), (19, .getfield 10, 3), (22, .aload_n 0, 1), (23, .getfield 26, 3), (26, .iload_n 2, 1), (27, .iaload, 1), (28, .aload_n 0, 1), (29, .getfield 29, 3), (32, .iload_n 2, 1), (33, .iaload, 1), (34, .aload_n 0, 1), (35, .getfield 26, 3), (38, .iload_n 2, 1), (39, .iconst 1, 1), (40, .iadd, 1), (41, .aload_n 0, 1), (42, .getfield 174, 3), (45, .irem, 1), (46, .iaload, 1), (47, .aload_n 0, 1), (48, .getfield 29, 3), (51, .iload_n 2, 1), (52, .iconst 1, 1), (53, .iadd, 1), (54, .aload_n 0, 1), (55, .getfield 174, 3), (58, .irem, 1), (59, .iaload, 1), (60, .invokevirtual 216, 3), (63, .iload_n 2, 1)]
theorem gl_isTouched_0 : tl_isTouched_0.all (fun r => opB ck_isTouched_0 r.1 && decide (decode ck_isTouched_0 r.1 = .ok (r.2.1, r.2.2))) = true := by decide +kernel
theorem dL_isTouched_0 : decode cL_isTouched 0 = .ok (.aload_n 0, 1) := sl_row ag_isTouched_0 gl_isTouched_0 (i := 0) (r := (0, .aload_n 0, 1)) rfl
theorem dL_isTouched_1 : decode cL_isTouched 1 = .ok (.getfield 10, 3) := sl_row ag_isTouched_0 gl_isTouched_0 (i := 1) (r := (1, .getfield 10, 3)) rfl
theorem dL_isTouched_4 : decode cL_isTouched 4 = .ok (.invokevirtual 213, 3) := sl_row ag_isTouched_0 gl_isTouched_0 (i := 2) (r := (4, .invokevirtual 213, 3)) rfl
theorem dL_isTouched_7 : decode cL_isTouched 7 = .ok (.istore_n 1, 1) := sl_row ag_isTouched_0 gl_isTouched_0 (i := 3) (r := (7, .istore_n 1, 1)) rfl
theorem dL_isTouched_8 : decode cL_isTouched 8 = .ok (.iconst 0, 1) := sl_row ag_isTouched_0 gl_isTouched_0 (i := 4) (r := (8, .iconst 0, 1)) rfl
theorem dL_isTouched_9 : decode cL_isTouched 9 = .ok (.istore_n 2, 1) := sl_row ag_isTouched_0 gl_isTouched_0 (i := 5) (r := (9, .istore_n 2, 1)) rfl
theorem dL_isTouched_10 : decode cL_isTouched 10 = .ok (.iload_n 2, 1) := sl_row ag_isTouched_0 gl_isTouched_0 (i := 6) (r := (10, .iload_n 2, 1)) rfl
theorem dL_isTouched_11 : decode cL_isTouched 11 = .ok (.aload_n 0, 1) := sl_row ag_isTouched_0 gl_isTouched_0 (i := 7) (r := (11, .aload_n 0, 1)) rfl
theorem dL_isTouched_12 : decode cL_isTouched 12 = .ok (.getfield 174, 3) := sl_row ag_isTouched_0 gl_isTouched_0 (i := 8) (r := (12, .getfield 174, 3)) rfl
theorem dL_isTouched_15 : decode cL_isTouched 15 = .ok (.if_icmp .ge 68, 3) := sl_row ag_isTouched_0 gl_isTouched_0 (i := 9) (r := (15, .if_icmp .ge 68, 3)) rfl
theorem dL_isTouched_18 : decode cL_isTouched 18 = .ok (.aload_n 0, 1) := sl_row ag_isTouched_0 gl_isTouched_0 (i := 10) (r := (18, .aload_n 0, 1)) rfl
theorem dL_isTouched_19 : decode cL_isTouched 19 = .ok (.getfield 10, 3) := sl_row ag_isTouched_0 gl_isTouched_0 (i := 11) (r := (19, .getfield 10, 3)) rfl
theorem dL_isTouched_22 : decode cL_isTouched 22 = .ok (.aload_n 0, 1) := sl_row ag_isTouched_0 gl_isTouched_0 (i := 12) (r := (22, .aload_n 0, 1)) rfl
theorem dL_isTouched_23 : decode cL_isTouched 23 = .ok (.getfield 26, 3) := sl_row ag_isTouched_0 gl_isTouched_0 (i := 13) (r := (23, .getfield 26, 3)) rfl
theorem dL_isTouched_26 : decode cL_isTouched 26 = .ok (.iload_n 2, 1) := sl_row ag_isTouched_0 gl_isTouched_0 (i := 14) (r := (26, .iload_n 2, 1)) rfl
theorem dL_isTouched_27 : decode cL_isTouched 27 = .ok (.iaload, 1) := sl_row ag_isTouched_0 gl_isTouched_0 (i := 15) (r := (27, .iaload, 1)) rfl
theorem dL_isTouched_28 : decode cL_isTouched 28 = .ok (.aload_n 0, 1) := sl_row ag_isTouched_0 gl_isTouched_0 (i := 16) (r := (28, .aload_n 0, 1)) rfl
theorem dL_isTouched_29 : decode cL_isTouched 29 = .ok (.getfield 29, 3) := sl_row ag_isTouched_0 gl_isTouched_0 (i := 17) (r := (29, .getfield 29, 3)) rfl
theorem dL_isTouched_32 : decode cL_isTouched 32 = .ok (.iload_n 2, 1) := sl_row ag_isTouched_0 gl_isTouched_0 (i := 18) (r := (32, .iload_n 2, 1)) rfl
theorem dL_isTouched_33 : decode cL_isTouched 33 = .ok (.iaload, 1) := sl_row ag_isTouched_0 gl_isTouched_0 (i := 19) (r := (33, .iaload, 1)) rfl
theorem dL_isTouched_34 : decode cL_isTouched 34 = .ok (.aload_n 0, 1) := sl_row ag_isTouched_0 gl_isTouched_0 (i := 20) (r := (34, .aload_n 0, 1)) rfl
theorem dL_isTouched_35 : decode cL_isTouched 35 = .ok (.getfield 26, 3) := sl_row ag_isTouched_0 gl_isTouched_0 (i := 21) (r := (35, .getfield 26, 3)) rfl
theorem dL_isTouched_38 : decode cL_isTouched 38 = .ok (.iload_n 2, 1) := sl_row ag_isTouched_0 gl_isTouched_0 (i := 22) (r := (38, .iload_n 2, 1)) rfl
theorem dL_isTouched_39 : decode cL_isTouched 39 = .ok (.iconst 1, 1) := sl_row ag_isTouched_0 gl_isTouched_0 (i := 23) (r := (39, .iconst 1, 1)) rfl
theorem dL_isTouched_40 : decode cL_isTouched 40 = .ok (.iadd, 1) := sl_row ag_isTouched_0 gl_isTouched_0 (i := 24) (r := (40, .iadd, 1)) rfl
theorem dL_isTouched_41 : decode cL_isTouched 41 = .ok (.aload_n 0, 1) := sl_row ag_isTouched_0 gl_isTouched_0 (i := 25) (r := (41, .aload_n 0, 1)) rfl
theorem dL_isTouched_42 : decode cL_isTouched 42 = .ok (.getfield 174, 3) := sl_row ag_isTouched_0 gl_isTouched_0 (i := 26) (r := (42, .getfield 174, 3)) rfl
theorem dL_isTouched_45 : decode cL_isTouched 45 = .ok (.irem, 1) := sl_row ag_isTouched_0 gl_isTouched_0 (i := 27) (r := (45, .irem, 1)) rfl
theorem dL_isTouched_46 : decode cL_isTouched 46 = .ok (.iaload, 1) := sl_row ag_isTouched_0 gl_isTouched_0 (i := 28) (r := (46, .iaload, 1)) rfl
theorem dL_isTouched_47 : decode cL_isTouched 47 = .ok (.aload_n 0, 1) := sl_row ag_isTouched_0 gl_isTouched_0 (i := 29) (r := (47, .aload_n 0, 1)) rfl
theorem dL_isTouched_48 : decode cL_isTouched 48 = .ok (.getfield 29, 3) := sl_row ag_isTouched_0 gl_isTouched_0 (i := 30) (r := (48, .getfield 29, 3)) rfl
theorem dL_isTouched_51 : decode cL_isTouched 51 = .ok (.iload_n 2, 1) := sl_row ag_isTouched_0 gl_isTouched_0 (i := 31) (r := (51, .iload_n 2, 1)) rfl
theorem dL_isTouched_52 : decode cL_isTouched 52 = .ok (.iconst 1, 1) := sl_row ag_isTouched_0 gl_isTouched_0 (i := 32) (r := (52, .iconst 1, 1)) rfl
theorem dL_isTouched_53 : decode cL_isTouched 53 = .ok (.iadd, 1) := sl_row ag_isTouched_0 gl_isTouched_0 (i := 33) (r := (53, .iadd, 1)) rfl
theorem dL_isTouched_54 : decode cL_isTouched 54 = .ok (.aload_n 0, 1) := sl_row ag_isTouched_0 gl_isTouched_0 (i := 34) (r := (54, .aload_n 0, 1)) rfl
theorem dL_isTouched_55 : decode cL_isTouched 55 = .ok (.getfield 174, 3) := sl_row ag_isTouched_0 gl_isTouched_0 (i := 35) (r := (55, .getfield 174, 3)) rfl
theorem dL_isTouched_58 : decode cL_isTouched 58 = .ok (.irem, 1) := sl_row ag_isTouched_0 gl_isTouched_0 (i := 36) (r := (58, .irem, 1)) rfl
theorem dL_isTouched_59 : decode cL_isTouched 59 = .ok (.iaload, 1) := sl_row ag_isTouched_0 gl_isTouched_0 (i := 37) (r := (59, .iaload, 1)) rfl
theorem dL_isTouched_60 : decode cL_isTouched 60 = .ok (.invokevirtual 216, 3) := sl_row ag_isTouched_0 gl_isTouched_0 (i := 38) (r := (60, .invokevirtual 216, 3)) rfl
theorem dL_isTouched_63 : decode cL_isTouched 63 = .ok (.iload_n 2, 1) := sl_row ag_isTouched_0 gl_isTouched_0 (i := 39) (r := (63, .iload_n 2, 1)) rfl
def ck_isTouched_1 : ByteArray := .mk #[0x9f, 0x00, 0x0d, 0x1b, 0x9c, 0x00, 0x07, 0x04, 0xa7, 0x00, 0x04, 0x03, 0xac, 0x84, 0x02, 0x01, 0xa7, 0xff, 0xba, 0x03, 0x3d, 0x1c, 0x2a, 0xb4, 0x00, 0xae, 0xa2, 0x01, 0x13, 0x1c, 0x04, 0x60, 0x3e, 0x1d, 0x2a, 0xb4, 0x00, 0xae, 0xa2, 0x01, 0x01, 0x2a, 0xb4, 0x00, 0x1a, 0x1c, 0x2e, 0x2a, 0xb4, 0x00, 0x1a, 0x1d, 0x2e, 0xa0, 0x00, 0x14, 0x2a, 0xb4, 0x00, 0x1d, 0x1c, 0x2e, 0x2a, 0xb4, 0x00, 0x1d, 0x1d, 0x2e]
set_option maxRecDepth 20000 in
theorem ag_isTouched_1 : ∀ q, agB cL_isTouched ck_isTouched_1 (64 + q) q := agB_of 64 (by decide +kernel)
def tl_isTouched_1 : List (Nat × Instr × Nat) := [(0, .if_icmp .eq 13, 3), (3, .iload_n 1, 1), (4, .ifCond .ge 7, 3), (7, .iconst 1, 1), (8, .goto 4, 3), (11, .iconst 0, 1), (12, .ireturn, 1), (13, .iinc 2 1, 3), (16, .goto (-70), 3), (19, .iconst 0, 1), (20, .istore_n 2, 1), (21, .iload_n 2, 1), (22, .aload_n 0, 1), (23, .getfield 174, 3), (26, .if_icmp .ge 275, 3), (29, .iload_n 2, 1), (30, .iconst 1, 1), (31, .iadd, 1), (32, .istore_n 3, 1), (33, .iload_n 3, 1), (34, .aload_n 0, 1), (35, .getfield 174, 3), (38, .if_icmp .ge 257, 3), (41, .aload_n 0, 1), (42, .getfield 26, 3), (45, .iload_n 2, 1), (46, .iaload, 1), (47, .aload_n 0, 1), (48, .getfield 26, 3), (51, .iload_n 3, 1), (52, .iaload, 1), (53, .if_icmp .ne 20, 3), (56, .aload_n 0, 1), (57, .getfield 29, 3), (60, .iload_n 2, 1), (61, .iaload, 1), (62, .aload_n 0, 1), (63, .getfield 29, 3)]
theorem gl_isTouched_1 : tl_isTouched_1.all (fun r => opB ck_isTouched_1 r.1 && decide (decode ck_isTouched_1 r.1 = .ok (r.2.1, r.2.2))) = true := by decide +kernel
theorem dL_isTouched_64 : decode cL_isTouched 64 = .ok (.if_icmp .eq 13, 3) := sl_row ag_isTouched_1 gl_isTouched_1 (i := 0) (r := (0, .if_icmp .eq 13, 3)) rfl
theorem dL_isTouched_67 : decode cL_isTouched 67 = .ok (.iload_n 1, 1) := sl_row ag_isTouched_1 gl_isTouched_1 (i := 1) (r := (3, .iload_n 1, 1)) rfl
theorem dL_isTouched_68 : decode cL_isTouched 68 = .ok (.ifCond .ge 7, 3) := sl_row ag_isTouched_1 gl_isTouched_1 (i := 2) (r := (4, .ifCond .ge 7, 3)) rfl
theorem dL_isTouched_71 : decode cL_isTouched 71 = .ok (.iconst 1, 1) := sl_row ag_isTouched_1 gl_isTouched_1 (i := 3) (r := (7, .iconst 1, 1)) rfl
theorem dL_isTouched_72 : decode cL_isTouched 72 = .ok (.goto 4, 3) := sl_row ag_isTouched_1 gl_isTouched_1 (i := 4) (r := (8, .goto 4, 3)) rfl
theorem dL_isTouched_75 : decode cL_isTouched 75 = .ok (.iconst 0, 1) := sl_row ag_isTouched_1 gl_isTouched_1 (i := 5) (r := (11, .iconst 0, 1)) rfl
theorem dL_isTouched_76 : decode cL_isTouched 76 = .ok (.ireturn, 1) := sl_row ag_isTouched_1 gl_isTouched_1 (i := 6) (r := (12, .ireturn, 1)) rfl
theorem dL_isTouched_77 : decode cL_isTouched 77 = .ok (.iinc 2 1, 3) := sl_row ag_isTouched_1 gl_isTouched_1 (i := 7) (r := (13, .iinc 2 1, 3)) rfl
theorem dL_isTouched_80 : decode cL_isTouched 80 = .ok (.goto (-70), 3) := sl_row ag_isTouched_1 gl_isTouched_1 (i := 8) (r := (16, .goto (-70), 3)) rfl
theorem dL_isTouched_83 : decode cL_isTouched 83 = .ok (.iconst 0, 1) := sl_row ag_isTouched_1 gl_isTouched_1 (i := 9) (r := (19, .iconst 0, 1)) rfl
theorem dL_isTouched_84 : decode cL_isTouched 84 = .ok (.istore_n 2, 1) := sl_row ag_isTouched_1 gl_isTouched_1 (i := 10) (r := (20, .istore_n 2, 1)) rfl
theorem dL_isTouched_85 : decode cL_isTouched 85 = .ok (.iload_n 2, 1) := sl_row ag_isTouched_1 gl_isTouched_1 (i := 11) (r := (21, .iload_n 2, 1)) rfl
theorem dL_isTouched_86 : decode cL_isTouched 86 = .ok (.aload_n 0, 1) := sl_row ag_isTouched_1 gl_isTouched_1 (i := 12) (r := (22, .aload_n 0, 1)) rfl
theorem dL_isTouched_87 : decode cL_isTouched 87 = .ok (.getfield 174, 3) := sl_row ag_isTouched_1 gl_isTouched_1 (i := 13) (r := (23, .getfield 174, 3)) rfl
theorem dL_isTouched_90 : decode cL_isTouched 90 = .ok (.if_icmp .ge 275, 3) := sl_row ag_isTouched_1 gl_isTouched_1 (i := 14) (r := (26, .if_icmp .ge 275, 3)) rfl
theorem dL_isTouched_93 : decode cL_isTouched 93 = .ok (.iload_n 2, 1) := sl_row ag_isTouched_1 gl_isTouched_1 (i := 15) (r := (29, .iload_n 2, 1)) rfl
theorem dL_isTouched_94 : decode cL_isTouched 94 = .ok (.iconst 1, 1) := sl_row ag_isTouched_1 gl_isTouched_1 (i := 16) (r := (30, .iconst 1, 1)) rfl
theorem dL_isTouched_95 : decode cL_isTouched 95 = .ok (.iadd, 1) := sl_row ag_isTouched_1 gl_isTouched_1 (i := 17) (r := (31, .iadd, 1)) rfl
theorem dL_isTouched_96 : decode cL_isTouched 96 = .ok (.istore_n 3, 1) := sl_row ag_isTouched_1 gl_isTouched_1 (i := 18) (r := (32, .istore_n 3, 1)) rfl
theorem dL_isTouched_97 : decode cL_isTouched 97 = .ok (.iload_n 3, 1) := sl_row ag_isTouched_1 gl_isTouched_1 (i := 19) (r := (33, .iload_n 3, 1)) rfl
theorem dL_isTouched_98 : decode cL_isTouched 98 = .ok (.aload_n 0, 1) := sl_row ag_isTouched_1 gl_isTouched_1 (i := 20) (r := (34, .aload_n 0, 1)) rfl
theorem dL_isTouched_99 : decode cL_isTouched 99 = .ok (.getfield 174, 3) := sl_row ag_isTouched_1 gl_isTouched_1 (i := 21) (r := (35, .getfield 174, 3)) rfl
theorem dL_isTouched_102 : decode cL_isTouched 102 = .ok (.if_icmp .ge 257, 3) := sl_row ag_isTouched_1 gl_isTouched_1 (i := 22) (r := (38, .if_icmp .ge 257, 3)) rfl
theorem dL_isTouched_105 : decode cL_isTouched 105 = .ok (.aload_n 0, 1) := sl_row ag_isTouched_1 gl_isTouched_1 (i := 23) (r := (41, .aload_n 0, 1)) rfl
theorem dL_isTouched_106 : decode cL_isTouched 106 = .ok (.getfield 26, 3) := sl_row ag_isTouched_1 gl_isTouched_1 (i := 24) (r := (42, .getfield 26, 3)) rfl
theorem dL_isTouched_109 : decode cL_isTouched 109 = .ok (.iload_n 2, 1) := sl_row ag_isTouched_1 gl_isTouched_1 (i := 25) (r := (45, .iload_n 2, 1)) rfl
theorem dL_isTouched_110 : decode cL_isTouched 110 = .ok (.iaload, 1) := sl_row ag_isTouched_1 gl_isTouched_1 (i := 26) (r := (46, .iaload, 1)) rfl
theorem dL_isTouched_111 : decode cL_isTouched 111 = .ok (.aload_n 0, 1) := sl_row ag_isTouched_1 gl_isTouched_1 (i := 27) (r := (47, .aload_n 0, 1)) rfl
theorem dL_isTouched_112 : decode cL_isTouched 112 = .ok (.getfield 26, 3) := sl_row ag_isTouched_1 gl_isTouched_1 (i := 28) (r := (48, .getfield 26, 3)) rfl
theorem dL_isTouched_115 : decode cL_isTouched 115 = .ok (.iload_n 3, 1) := sl_row ag_isTouched_1 gl_isTouched_1 (i := 29) (r := (51, .iload_n 3, 1)) rfl
theorem dL_isTouched_116 : decode cL_isTouched 116 = .ok (.iaload, 1) := sl_row ag_isTouched_1 gl_isTouched_1 (i := 30) (r := (52, .iaload, 1)) rfl
theorem dL_isTouched_117 : decode cL_isTouched 117 = .ok (.if_icmp .ne 20, 3) := sl_row ag_isTouched_1 gl_isTouched_1 (i := 31) (r := (53, .if_icmp .ne 20, 3)) rfl
theorem dL_isTouched_120 : decode cL_isTouched 120 = .ok (.aload_n 0, 1) := sl_row ag_isTouched_1 gl_isTouched_1 (i := 32) (r := (56, .aload_n 0, 1)) rfl
theorem dL_isTouched_121 : decode cL_isTouched 121 = .ok (.getfield 29, 3) := sl_row ag_isTouched_1 gl_isTouched_1 (i := 33) (r := (57, .getfield 29, 3)) rfl
theorem dL_isTouched_124 : decode cL_isTouched 124 = .ok (.iload_n 2, 1) := sl_row ag_isTouched_1 gl_isTouched_1 (i := 34) (r := (60, .iload_n 2, 1)) rfl
theorem dL_isTouched_125 : decode cL_isTouched 125 = .ok (.iaload, 1) := sl_row ag_isTouched_1 gl_isTouched_1 (i := 35) (r := (61, .iaload, 1)) rfl
theorem dL_isTouched_126 : decode cL_isTouched 126 = .ok (.aload_n 0, 1) := sl_row ag_isTouched_1 gl_isTouched_1 (i := 36) (r := (62, .aload_n 0, 1)) rfl
theorem dL_isTouched_127 : decode cL_isTouched 127 = .ok (.getfield 29, 3) := sl_row ag_isTouched_1 gl_isTouched_1 (i := 37) (r := (63, .getfield 29, 3)) rfl
def ck_isTouched_2 : ByteArray := .mk #[0x00, 0x1d, 0x1d, 0x2e, 0xa0, 0x00, 0x05, 0x04, 0xac, 0x1d, 0x1c, 0x04, 0x60, 0x9f, 0x00, 0x11, 0x1c, 0x9a, 0x00, 0x11, 0x1d, 0x2a, 0xb4, 0x00, 0xae, 0x04, 0x64, 0xa0, 0x00, 0x07, 0x04, 0xa7, 0x00, 0x04, 0x03, 0x36, 0x04, 0x15, 0x04, 0x9a, 0x00, 0x11, 0x2a, 0xb4, 0x00, 0x0a, 0x1c, 0x1d, 0xb6, 0x00, 0xdc, 0x99, 0x00, 0x05, 0x04, 0xac, 0x1d, 0x1c, 0x04, 0x60, 0xa0, 0x00, 0x07, 0x1c, 0xa7, 0x00, 0x04, 0x1d]
set_option maxRecDepth 20000 in
theorem ag_isTouched_2 : ∀ q, agB cL_isTouched ck_isTouched_2 (128 + q) q := agB_of 128 (by decide +kernel)
def tl_isTouched_2 : List (Nat × Instr × Nat) := [(2, .iload_n 3, 1), (3, .iaload, 1), (4, .if_icmp .ne 5, 3), (7, .iconst 1, 1), (8, .ireturn, 1), (9, .iload_n 3, 1), (10, .iload_n 2, 1), (11, .iconst 1, 1), (12, .iadd, 1), (13, .if_icmp .eq 17, 3), (16, .iload_n 2, 1), (17, .ifCond .ne 17, 3), (20, .iload_n 3, 1), (21, .aload_n 0, 1), (22, .getfield 174, 3), (25, .iconst 1, 1), (26, .isub, 1), (27, .if_icmp .ne 7, 3), (30, .iconst 1, 1), (31, .goto 4, 3), (34, .iconst 0, 1), (35, .istore 4, 2), (37, .iload 4, 2), (39, .ifCond .ne 17, 3), (42, .aload_n 0, 1), (43, .getfield 10, 3), (46, .iload_n 2, 1), (47, .iload_n 3, 1), (48, .invokevirtual 220, 3), (51, .ifCond .eq 5, 3), (54, .iconst 1, 1), (55, .ireturn, 1), (56, .iload_n 3, 1), (57, .iload_n 2, 1), (58, .iconst 1, 1), (59, .iadd, 1), (60, .if_icmp .ne 7, 3), (63, .iload_n 2, 1)]
theorem gl_isTouched_2 : tl_isTouched_2.all (fun r => opB ck_isTouched_2 r.1 && decide (decode ck_isTouched_2 r.1 = .ok (r.2.1, r.2.2))) = true := by decide +kernel
theorem dL_isTouched_130 : decode cL_isTouched 130 = .ok (.iload_n 3, 1) := sl_row ag_isTouched_2 gl_isTouched_2 (i := 0) (r := (2, .iload_n 3, 1)) rfl
theorem dL_isTouched_131 : decode cL_isTouched 131 = .ok (.iaload, 1) := sl_row ag_isTouched_2 gl_isTouched_2 (i := 1) (r := (3, .iaload, 1)) rfl
theorem dL_isTouched_132 : decode cL_isTouched 132 = .ok (.if_icmp .ne 5, 3) := sl_row ag_isTouched_2 gl_isTouched_2 (i := 2) (r := (4, .if_icmp .ne 5, 3)) rfl
theorem dL_isTouched_135 : decode cL_isTouched 135 = .ok (.iconst 1, 1) := sl_row ag_isTouched_2 gl_isTouched_2 (i := 3) (r := (7, .iconst 1, 1)) rfl
theorem dL_isTouched_136 : decode cL_isTouched 136 = .ok (.ireturn, 1) := sl_row ag_isTouched_2 gl_isTouched_2 (i := 4) (r := (8, .ireturn, 1)) rfl
theorem dL_isTouched_137 : decode cL_isTouched 137 = .ok (.iload_n 3, 1) := sl_row ag_isTouched_2 gl_isTouched_2 (i := 5) (r := (9, .iload_n 3, 1)) rfl
theorem dL_isTouched_138 : decode cL_isTouched 138 = .ok (.iload_n 2, 1) := sl_row ag_isTouched_2 gl_isTouched_2 (i := 6) (r := (10, .iload_n 2, 1)) rfl
theorem dL_isTouched_139 : decode cL_isTouched 139 = .ok (.iconst 1, 1) := sl_row ag_isTouched_2 gl_isTouched_2 (i := 7) (r := (11, .iconst 1, 1)) rfl
theorem dL_isTouched_140 : decode cL_isTouched 140 = .ok (.iadd, 1) := sl_row ag_isTouched_2 gl_isTouched_2 (i := 8) (r := (12, .iadd, 1)) rfl
theorem dL_isTouched_141 : decode cL_isTouched 141 = .ok (.if_icmp .eq 17, 3) := sl_row ag_isTouched_2 gl_isTouched_2 (i := 9) (r := (13, .if_icmp .eq 17, 3)) rfl
theorem dL_isTouched_144 : decode cL_isTouched 144 = .ok (.iload_n 2, 1) := sl_row ag_isTouched_2 gl_isTouched_2 (i := 10) (r := (16, .iload_n 2, 1)) rfl
theorem dL_isTouched_145 : decode cL_isTouched 145 = .ok (.ifCond .ne 17, 3) := sl_row ag_isTouched_2 gl_isTouched_2 (i := 11) (r := (17, .ifCond .ne 17, 3)) rfl
theorem dL_isTouched_148 : decode cL_isTouched 148 = .ok (.iload_n 3, 1) := sl_row ag_isTouched_2 gl_isTouched_2 (i := 12) (r := (20, .iload_n 3, 1)) rfl
theorem dL_isTouched_149 : decode cL_isTouched 149 = .ok (.aload_n 0, 1) := sl_row ag_isTouched_2 gl_isTouched_2 (i := 13) (r := (21, .aload_n 0, 1)) rfl
theorem dL_isTouched_150 : decode cL_isTouched 150 = .ok (.getfield 174, 3) := sl_row ag_isTouched_2 gl_isTouched_2 (i := 14) (r := (22, .getfield 174, 3)) rfl
theorem dL_isTouched_153 : decode cL_isTouched 153 = .ok (.iconst 1, 1) := sl_row ag_isTouched_2 gl_isTouched_2 (i := 15) (r := (25, .iconst 1, 1)) rfl
theorem dL_isTouched_154 : decode cL_isTouched 154 = .ok (.isub, 1) := sl_row ag_isTouched_2 gl_isTouched_2 (i := 16) (r := (26, .isub, 1)) rfl
theorem dL_isTouched_155 : decode cL_isTouched 155 = .ok (.if_icmp .ne 7, 3) := sl_row ag_isTouched_2 gl_isTouched_2 (i := 17) (r := (27, .if_icmp .ne 7, 3)) rfl
theorem dL_isTouched_158 : decode cL_isTouched 158 = .ok (.iconst 1, 1) := sl_row ag_isTouched_2 gl_isTouched_2 (i := 18) (r := (30, .iconst 1, 1)) rfl
theorem dL_isTouched_159 : decode cL_isTouched 159 = .ok (.goto 4, 3) := sl_row ag_isTouched_2 gl_isTouched_2 (i := 19) (r := (31, .goto 4, 3)) rfl
theorem dL_isTouched_162 : decode cL_isTouched 162 = .ok (.iconst 0, 1) := sl_row ag_isTouched_2 gl_isTouched_2 (i := 20) (r := (34, .iconst 0, 1)) rfl
theorem dL_isTouched_163 : decode cL_isTouched 163 = .ok (.istore 4, 2) := sl_row ag_isTouched_2 gl_isTouched_2 (i := 21) (r := (35, .istore 4, 2)) rfl
theorem dL_isTouched_165 : decode cL_isTouched 165 = .ok (.iload 4, 2) := sl_row ag_isTouched_2 gl_isTouched_2 (i := 22) (r := (37, .iload 4, 2)) rfl
theorem dL_isTouched_167 : decode cL_isTouched 167 = .ok (.ifCond .ne 17, 3) := sl_row ag_isTouched_2 gl_isTouched_2 (i := 23) (r := (39, .ifCond .ne 17, 3)) rfl
theorem dL_isTouched_170 : decode cL_isTouched 170 = .ok (.aload_n 0, 1) := sl_row ag_isTouched_2 gl_isTouched_2 (i := 24) (r := (42, .aload_n 0, 1)) rfl
theorem dL_isTouched_171 : decode cL_isTouched 171 = .ok (.getfield 10, 3) := sl_row ag_isTouched_2 gl_isTouched_2 (i := 25) (r := (43, .getfield 10, 3)) rfl
theorem dL_isTouched_174 : decode cL_isTouched 174 = .ok (.iload_n 2, 1) := sl_row ag_isTouched_2 gl_isTouched_2 (i := 26) (r := (46, .iload_n 2, 1)) rfl
theorem dL_isTouched_175 : decode cL_isTouched 175 = .ok (.iload_n 3, 1) := sl_row ag_isTouched_2 gl_isTouched_2 (i := 27) (r := (47, .iload_n 3, 1)) rfl
theorem dL_isTouched_176 : decode cL_isTouched 176 = .ok (.invokevirtual 220, 3) := sl_row ag_isTouched_2 gl_isTouched_2 (i := 28) (r := (48, .invokevirtual 220, 3)) rfl
theorem dL_isTouched_179 : decode cL_isTouched 179 = .ok (.ifCond .eq 5, 3) := sl_row ag_isTouched_2 gl_isTouched_2 (i := 29) (r := (51, .ifCond .eq 5, 3)) rfl
theorem dL_isTouched_182 : decode cL_isTouched 182 = .ok (.iconst 1, 1) := sl_row ag_isTouched_2 gl_isTouched_2 (i := 30) (r := (54, .iconst 1, 1)) rfl
theorem dL_isTouched_183 : decode cL_isTouched 183 = .ok (.ireturn, 1) := sl_row ag_isTouched_2 gl_isTouched_2 (i := 31) (r := (55, .ireturn, 1)) rfl
theorem dL_isTouched_184 : decode cL_isTouched 184 = .ok (.iload_n 3, 1) := sl_row ag_isTouched_2 gl_isTouched_2 (i := 32) (r := (56, .iload_n 3, 1)) rfl
theorem dL_isTouched_185 : decode cL_isTouched 185 = .ok (.iload_n 2, 1) := sl_row ag_isTouched_2 gl_isTouched_2 (i := 33) (r := (57, .iload_n 2, 1)) rfl
theorem dL_isTouched_186 : decode cL_isTouched 186 = .ok (.iconst 1, 1) := sl_row ag_isTouched_2 gl_isTouched_2 (i := 34) (r := (58, .iconst 1, 1)) rfl
theorem dL_isTouched_187 : decode cL_isTouched 187 = .ok (.iadd, 1) := sl_row ag_isTouched_2 gl_isTouched_2 (i := 35) (r := (59, .iadd, 1)) rfl
theorem dL_isTouched_188 : decode cL_isTouched 188 = .ok (.if_icmp .ne 7, 3) := sl_row ag_isTouched_2 gl_isTouched_2 (i := 36) (r := (60, .if_icmp .ne 7, 3)) rfl
theorem dL_isTouched_191 : decode cL_isTouched 191 = .ok (.iload_n 2, 1) := sl_row ag_isTouched_2 gl_isTouched_2 (i := 37) (r := (63, .iload_n 2, 1)) rfl
def ck_isTouched_3 : ByteArray := .mk #[0xa7, 0x00, 0x04, 0x1d, 0x36, 0x05, 0x15, 0x05, 0x04, 0x60, 0x2a, 0xb4, 0x00, 0xae, 0x70, 0x36, 0x06, 0x15, 0x05, 0x05, 0x60, 0x2a, 0xb4, 0x00, 0xae, 0x70, 0x36, 0x07, 0x15, 0x04, 0x99, 0x00, 0x79, 0x2a, 0xb4, 0x00, 0x1a, 0x15, 0x05, 0x2e, 0x2a, 0xb4, 0x00, 0x1d, 0x15, 0x05, 0x2e, 0x2a, 0xb4, 0x00, 0x1a, 0x15, 0x06, 0x2e, 0x2a, 0xb4, 0x00, 0x1d, 0x15, 0x06, 0x2e, 0x2a, 0xb4, 0x00, 0x1a, 0x15, 0x07, 0x2e]
set_option maxRecDepth 20000 in
theorem ag_isTouched_3 : ∀ q, agB cL_isTouched ck_isTouched_3 (192 + q) q := agB_of 192 (by decide +kernel)
def tl_isTouched_3 : List (Nat × Instr × Nat) := [(0, .goto 4, 3), (3, .iload_n 3, 1), (4, .istore 5, 2), (6, .iload 5, 2), (8, .iconst 1, 1), (9, .iadd, 1), (10, .aload_n 0, 1), (11, .getfield 174, 3), (14, .irem, 1), (15, .istore 6, 2), (17, .iload 5, 2), (19, .iconst 2, 1), (20, .iadd, 1), (21, .aload_n 0, 1), (22, .getfield 174, 3), (25, .irem, 1), (26, .istore 7, 2), (28, .iload 4, 2), (30, .ifCond .eq 121, 3), (33, .aload_n 0, 1), (34, .getfield 26, 3), (37, .iload 5, 2), (39, .iaload, 1), (40, .aload_n 0, 1), (41, .getfield 29, 3), (44, .iload 5, 2), (46, .iaload, 1), (47, .aload_n 0, 1), (48, .getfield 26, 3), (51, .iload 6, 2), (53, .iaload, 1), (54, .aload_n 0, 1), (55, .getfield 29, 3), (58, .iload 6, 2), (60, .iaload, 1), (61, .aload_n 0, 1), (62, .getfield 26, 3)]
theorem gl_isTouched_3 : tl_isTouched_3.all (fun r => opB ck_isTouched_3 r.1 && decide (decode ck_isTouched_3 r.1 = .ok (r.2.1, r.2.2))) = true := by decide +kernel
theorem dL_isTouched_192 : decode cL_isTouched 192 = .ok (.goto 4, 3) := sl_row ag_isTouched_3 gl_isTouched_3 (i := 0) (r := (0, .goto 4, 3)) rfl
theorem dL_isTouched_195 : decode cL_isTouched 195 = .ok (.iload_n 3, 1) := sl_row ag_isTouched_3 gl_isTouched_3 (i := 1) (r := (3, .iload_n 3, 1)) rfl
theorem dL_isTouched_196 : decode cL_isTouched 196 = .ok (.istore 5, 2) := sl_row ag_isTouched_3 gl_isTouched_3 (i := 2) (r := (4, .istore 5, 2)) rfl
theorem dL_isTouched_198 : decode cL_isTouched 198 = .ok (.iload 5, 2) := sl_row ag_isTouched_3 gl_isTouched_3 (i := 3) (r := (6, .iload 5, 2)) rfl
theorem dL_isTouched_200 : decode cL_isTouched 200 = .ok (.iconst 1, 1) := sl_row ag_isTouched_3 gl_isTouched_3 (i := 4) (r := (8, .iconst 1, 1)) rfl
theorem dL_isTouched_201 : decode cL_isTouched 201 = .ok (.iadd, 1) := sl_row ag_isTouched_3 gl_isTouched_3 (i := 5) (r := (9, .iadd, 1)) rfl
theorem dL_isTouched_202 : decode cL_isTouched 202 = .ok (.aload_n 0, 1) := sl_row ag_isTouched_3 gl_isTouched_3 (i := 6) (r := (10, .aload_n 0, 1)) rfl
theorem dL_isTouched_203 : decode cL_isTouched 203 = .ok (.getfield 174, 3) := sl_row ag_isTouched_3 gl_isTouched_3 (i := 7) (r := (11, .getfield 174, 3)) rfl
theorem dL_isTouched_206 : decode cL_isTouched 206 = .ok (.irem, 1) := sl_row ag_isTouched_3 gl_isTouched_3 (i := 8) (r := (14, .irem, 1)) rfl
theorem dL_isTouched_207 : decode cL_isTouched 207 = .ok (.istore 6, 2) := sl_row ag_isTouched_3 gl_isTouched_3 (i := 9) (r := (15, .istore 6, 2)) rfl
theorem dL_isTouched_209 : decode cL_isTouched 209 = .ok (.iload 5, 2) := sl_row ag_isTouched_3 gl_isTouched_3 (i := 10) (r := (17, .iload 5, 2)) rfl
theorem dL_isTouched_211 : decode cL_isTouched 211 = .ok (.iconst 2, 1) := sl_row ag_isTouched_3 gl_isTouched_3 (i := 11) (r := (19, .iconst 2, 1)) rfl
theorem dL_isTouched_212 : decode cL_isTouched 212 = .ok (.iadd, 1) := sl_row ag_isTouched_3 gl_isTouched_3 (i := 12) (r := (20, .iadd, 1)) rfl
theorem dL_isTouched_213 : decode cL_isTouched 213 = .ok (.aload_n 0, 1) := sl_row ag_isTouched_3 gl_isTouched_3 (i := 13) (r := (21, .aload_n 0, 1)) rfl
theorem dL_isTouched_214 : decode cL_isTouched 214 = .ok (.getfield 174, 3) := sl_row ag_isTouched_3 gl_isTouched_3 (i := 14) (r := (22, .getfield 174, 3)) rfl
theorem dL_isTouched_217 : decode cL_isTouched 217 = .ok (.irem, 1) := sl_row ag_isTouched_3 gl_isTouched_3 (i := 15) (r := (25, .irem, 1)) rfl
theorem dL_isTouched_218 : decode cL_isTouched 218 = .ok (.istore 7, 2) := sl_row ag_isTouched_3 gl_isTouched_3 (i := 16) (r := (26, .istore 7, 2)) rfl
theorem dL_isTouched_220 : decode cL_isTouched 220 = .ok (.iload 4, 2) := sl_row ag_isTouched_3 gl_isTouched_3 (i := 17) (r := (28, .iload 4, 2)) rfl
theorem dL_isTouched_222 : decode cL_isTouched 222 = .ok (.ifCond .eq 121, 3) := sl_row ag_isTouched_3 gl_isTouched_3 (i := 18) (r := (30, .ifCond .eq 121, 3)) rfl
theorem dL_isTouched_225 : decode cL_isTouched 225 = .ok (.aload_n 0, 1) := sl_row ag_isTouched_3 gl_isTouched_3 (i := 19) (r := (33, .aload_n 0, 1)) rfl
theorem dL_isTouched_226 : decode cL_isTouched 226 = .ok (.getfield 26, 3) := sl_row ag_isTouched_3 gl_isTouched_3 (i := 20) (r := (34, .getfield 26, 3)) rfl
theorem dL_isTouched_229 : decode cL_isTouched 229 = .ok (.iload 5, 2) := sl_row ag_isTouched_3 gl_isTouched_3 (i := 21) (r := (37, .iload 5, 2)) rfl
theorem dL_isTouched_231 : decode cL_isTouched 231 = .ok (.iaload, 1) := sl_row ag_isTouched_3 gl_isTouched_3 (i := 22) (r := (39, .iaload, 1)) rfl
theorem dL_isTouched_232 : decode cL_isTouched 232 = .ok (.aload_n 0, 1) := sl_row ag_isTouched_3 gl_isTouched_3 (i := 23) (r := (40, .aload_n 0, 1)) rfl
theorem dL_isTouched_233 : decode cL_isTouched 233 = .ok (.getfield 29, 3) := sl_row ag_isTouched_3 gl_isTouched_3 (i := 24) (r := (41, .getfield 29, 3)) rfl
theorem dL_isTouched_236 : decode cL_isTouched 236 = .ok (.iload 5, 2) := sl_row ag_isTouched_3 gl_isTouched_3 (i := 25) (r := (44, .iload 5, 2)) rfl
theorem dL_isTouched_238 : decode cL_isTouched 238 = .ok (.iaload, 1) := sl_row ag_isTouched_3 gl_isTouched_3 (i := 26) (r := (46, .iaload, 1)) rfl
theorem dL_isTouched_239 : decode cL_isTouched 239 = .ok (.aload_n 0, 1) := sl_row ag_isTouched_3 gl_isTouched_3 (i := 27) (r := (47, .aload_n 0, 1)) rfl
theorem dL_isTouched_240 : decode cL_isTouched 240 = .ok (.getfield 26, 3) := sl_row ag_isTouched_3 gl_isTouched_3 (i := 28) (r := (48, .getfield 26, 3)) rfl
theorem dL_isTouched_243 : decode cL_isTouched 243 = .ok (.iload 6, 2) := sl_row ag_isTouched_3 gl_isTouched_3 (i := 29) (r := (51, .iload 6, 2)) rfl
theorem dL_isTouched_245 : decode cL_isTouched 245 = .ok (.iaload, 1) := sl_row ag_isTouched_3 gl_isTouched_3 (i := 30) (r := (53, .iaload, 1)) rfl
theorem dL_isTouched_246 : decode cL_isTouched 246 = .ok (.aload_n 0, 1) := sl_row ag_isTouched_3 gl_isTouched_3 (i := 31) (r := (54, .aload_n 0, 1)) rfl
theorem dL_isTouched_247 : decode cL_isTouched 247 = .ok (.getfield 29, 3) := sl_row ag_isTouched_3 gl_isTouched_3 (i := 32) (r := (55, .getfield 29, 3)) rfl
theorem dL_isTouched_250 : decode cL_isTouched 250 = .ok (.iload 6, 2) := sl_row ag_isTouched_3 gl_isTouched_3 (i := 33) (r := (58, .iload 6, 2)) rfl
theorem dL_isTouched_252 : decode cL_isTouched 252 = .ok (.iaload, 1) := sl_row ag_isTouched_3 gl_isTouched_3 (i := 34) (r := (60, .iaload, 1)) rfl
theorem dL_isTouched_253 : decode cL_isTouched 253 = .ok (.aload_n 0, 1) := sl_row ag_isTouched_3 gl_isTouched_3 (i := 35) (r := (61, .aload_n 0, 1)) rfl
theorem dL_isTouched_254 : decode cL_isTouched 254 = .ok (.getfield 26, 3) := sl_row ag_isTouched_3 gl_isTouched_3 (i := 36) (r := (62, .getfield 26, 3)) rfl
def ck_isTouched_4 : ByteArray := .mk #[0x1a, 0x15, 0x07, 0x2e, 0x2a, 0xb4, 0x00, 0x1d, 0x15, 0x07, 0x2e, 0xb8, 0x00, 0x4d, 0x9a, 0x00, 0x49, 0x2a, 0xb4, 0x00, 0x1a, 0x15, 0x05, 0x2e, 0x2a, 0xb4, 0x00, 0x1a, 0x15, 0x06, 0x2e, 0x64, 0x2a, 0xb4, 0x00, 0x1a, 0x15, 0x07, 0x2e, 0x2a, 0xb4, 0x00, 0x1a, 0x15, 0x06, 0x2e, 0x64, 0x68, 0x2a, 0xb4, 0x00, 0x1d, 0x15, 0x05, 0x2e, 0x2a, 0xb4, 0x00, 0x1d, 0x15, 0x06, 0x2e, 0x64, 0x2a, 0xb4, 0x00, 0x1d, 0x15]
set_option maxRecDepth 20000 in
theorem ag_isTouched_4 : ∀ q, agB cL_isTouched ck_isTouched_4 (256 + q) q := agB_of 256 (by decide +kernel)
def tl_isTouched_4 : List (Nat × Instr × Nat) := [(1, .iload 7, 2), (3, .iaload, 1), (4, .aload_n 0, 1), (5, .getfield 29, 3), (8, .iload 7, 2), (10, .iaload, 1), (11, .invokestatic 77, 3), (14, .ifCond .ne 73, 3), (17, .aload_n 0, 1), (18, .getfield 26, 3), (21, .iload 5, 2), (23, .iaload, 1), (24, .aload_n 0, 1), (25, .getfield 26, 3), (28, .iload 6, 2), (30, .iaload, 1), (31, .isub, 1), (32, .aload_n 0, 1), (33, .getfield 26, 3), (36, .iload 7, 2), (38, .iaload, 1), (39, .aload_n 0, 1), (40, .getfield 26, 3), (43, .iload 6, 2), (45, .iaload, 1), (46, .isub, 1), (47, .imul, 1), (48, .aload_n 0, 1), (49, .getfield 29, 3), (52, .iload 5, 2), (54, .iaload, 1), (55, .aload_n 0, 1), (56, .getfield 29, 3), (59, .iload 6, 2), (61, .iaload, 1), (62, .isub, 1), (63, .aload_n 0, 1)]
theorem gl_isTouched_4 : tl_isTouched_4.all (fun r => opB ck_isTouched_4 r.1 && decide (decode ck_isTouched_4 r.1 = .ok (r.2.1, r.2.2))) = true := by decide +kernel
theorem dL_isTouched_257 : decode cL_isTouched 257 = .ok (.iload 7, 2) := sl_row ag_isTouched_4 gl_isTouched_4 (i := 0) (r := (1, .iload 7, 2)) rfl
theorem dL_isTouched_259 : decode cL_isTouched 259 = .ok (.iaload, 1) := sl_row ag_isTouched_4 gl_isTouched_4 (i := 1) (r := (3, .iaload, 1)) rfl
theorem dL_isTouched_260 : decode cL_isTouched 260 = .ok (.aload_n 0, 1) := sl_row ag_isTouched_4 gl_isTouched_4 (i := 2) (r := (4, .aload_n 0, 1)) rfl
theorem dL_isTouched_261 : decode cL_isTouched 261 = .ok (.getfield 29, 3) := sl_row ag_isTouched_4 gl_isTouched_4 (i := 3) (r := (5, .getfield 29, 3)) rfl
theorem dL_isTouched_264 : decode cL_isTouched 264 = .ok (.iload 7, 2) := sl_row ag_isTouched_4 gl_isTouched_4 (i := 4) (r := (8, .iload 7, 2)) rfl
theorem dL_isTouched_266 : decode cL_isTouched 266 = .ok (.iaload, 1) := sl_row ag_isTouched_4 gl_isTouched_4 (i := 5) (r := (10, .iaload, 1)) rfl
theorem dL_isTouched_267 : decode cL_isTouched 267 = .ok (.invokestatic 77, 3) := sl_row ag_isTouched_4 gl_isTouched_4 (i := 6) (r := (11, .invokestatic 77, 3)) rfl
theorem dL_isTouched_270 : decode cL_isTouched 270 = .ok (.ifCond .ne 73, 3) := sl_row ag_isTouched_4 gl_isTouched_4 (i := 7) (r := (14, .ifCond .ne 73, 3)) rfl
theorem dL_isTouched_273 : decode cL_isTouched 273 = .ok (.aload_n 0, 1) := sl_row ag_isTouched_4 gl_isTouched_4 (i := 8) (r := (17, .aload_n 0, 1)) rfl
theorem dL_isTouched_274 : decode cL_isTouched 274 = .ok (.getfield 26, 3) := sl_row ag_isTouched_4 gl_isTouched_4 (i := 9) (r := (18, .getfield 26, 3)) rfl
theorem dL_isTouched_277 : decode cL_isTouched 277 = .ok (.iload 5, 2) := sl_row ag_isTouched_4 gl_isTouched_4 (i := 10) (r := (21, .iload 5, 2)) rfl
theorem dL_isTouched_279 : decode cL_isTouched 279 = .ok (.iaload, 1) := sl_row ag_isTouched_4 gl_isTouched_4 (i := 11) (r := (23, .iaload, 1)) rfl
theorem dL_isTouched_280 : decode cL_isTouched 280 = .ok (.aload_n 0, 1) := sl_row ag_isTouched_4 gl_isTouched_4 (i := 12) (r := (24, .aload_n 0, 1)) rfl
theorem dL_isTouched_281 : decode cL_isTouched 281 = .ok (.getfield 26, 3) := sl_row ag_isTouched_4 gl_isTouched_4 (i := 13) (r := (25, .getfield 26, 3)) rfl
theorem dL_isTouched_284 : decode cL_isTouched 284 = .ok (.iload 6, 2) := sl_row ag_isTouched_4 gl_isTouched_4 (i := 14) (r := (28, .iload 6, 2)) rfl
theorem dL_isTouched_286 : decode cL_isTouched 286 = .ok (.iaload, 1) := sl_row ag_isTouched_4 gl_isTouched_4 (i := 15) (r := (30, .iaload, 1)) rfl
theorem dL_isTouched_287 : decode cL_isTouched 287 = .ok (.isub, 1) := sl_row ag_isTouched_4 gl_isTouched_4 (i := 16) (r := (31, .isub, 1)) rfl
theorem dL_isTouched_288 : decode cL_isTouched 288 = .ok (.aload_n 0, 1) := sl_row ag_isTouched_4 gl_isTouched_4 (i := 17) (r := (32, .aload_n 0, 1)) rfl
theorem dL_isTouched_289 : decode cL_isTouched 289 = .ok (.getfield 26, 3) := sl_row ag_isTouched_4 gl_isTouched_4 (i := 18) (r := (33, .getfield 26, 3)) rfl
theorem dL_isTouched_292 : decode cL_isTouched 292 = .ok (.iload 7, 2) := sl_row ag_isTouched_4 gl_isTouched_4 (i := 19) (r := (36, .iload 7, 2)) rfl
theorem dL_isTouched_294 : decode cL_isTouched 294 = .ok (.iaload, 1) := sl_row ag_isTouched_4 gl_isTouched_4 (i := 20) (r := (38, .iaload, 1)) rfl
theorem dL_isTouched_295 : decode cL_isTouched 295 = .ok (.aload_n 0, 1) := sl_row ag_isTouched_4 gl_isTouched_4 (i := 21) (r := (39, .aload_n 0, 1)) rfl
theorem dL_isTouched_296 : decode cL_isTouched 296 = .ok (.getfield 26, 3) := sl_row ag_isTouched_4 gl_isTouched_4 (i := 22) (r := (40, .getfield 26, 3)) rfl
theorem dL_isTouched_299 : decode cL_isTouched 299 = .ok (.iload 6, 2) := sl_row ag_isTouched_4 gl_isTouched_4 (i := 23) (r := (43, .iload 6, 2)) rfl
theorem dL_isTouched_301 : decode cL_isTouched 301 = .ok (.iaload, 1) := sl_row ag_isTouched_4 gl_isTouched_4 (i := 24) (r := (45, .iaload, 1)) rfl
theorem dL_isTouched_302 : decode cL_isTouched 302 = .ok (.isub, 1) := sl_row ag_isTouched_4 gl_isTouched_4 (i := 25) (r := (46, .isub, 1)) rfl
theorem dL_isTouched_303 : decode cL_isTouched 303 = .ok (.imul, 1) := sl_row ag_isTouched_4 gl_isTouched_4 (i := 26) (r := (47, .imul, 1)) rfl
theorem dL_isTouched_304 : decode cL_isTouched 304 = .ok (.aload_n 0, 1) := sl_row ag_isTouched_4 gl_isTouched_4 (i := 27) (r := (48, .aload_n 0, 1)) rfl
theorem dL_isTouched_305 : decode cL_isTouched 305 = .ok (.getfield 29, 3) := sl_row ag_isTouched_4 gl_isTouched_4 (i := 28) (r := (49, .getfield 29, 3)) rfl
theorem dL_isTouched_308 : decode cL_isTouched 308 = .ok (.iload 5, 2) := sl_row ag_isTouched_4 gl_isTouched_4 (i := 29) (r := (52, .iload 5, 2)) rfl
theorem dL_isTouched_310 : decode cL_isTouched 310 = .ok (.iaload, 1) := sl_row ag_isTouched_4 gl_isTouched_4 (i := 30) (r := (54, .iaload, 1)) rfl
theorem dL_isTouched_311 : decode cL_isTouched 311 = .ok (.aload_n 0, 1) := sl_row ag_isTouched_4 gl_isTouched_4 (i := 31) (r := (55, .aload_n 0, 1)) rfl
theorem dL_isTouched_312 : decode cL_isTouched 312 = .ok (.getfield 29, 3) := sl_row ag_isTouched_4 gl_isTouched_4 (i := 32) (r := (56, .getfield 29, 3)) rfl
theorem dL_isTouched_315 : decode cL_isTouched 315 = .ok (.iload 6, 2) := sl_row ag_isTouched_4 gl_isTouched_4 (i := 33) (r := (59, .iload 6, 2)) rfl
theorem dL_isTouched_317 : decode cL_isTouched 317 = .ok (.iaload, 1) := sl_row ag_isTouched_4 gl_isTouched_4 (i := 34) (r := (61, .iaload, 1)) rfl
theorem dL_isTouched_318 : decode cL_isTouched 318 = .ok (.isub, 1) := sl_row ag_isTouched_4 gl_isTouched_4 (i := 35) (r := (62, .isub, 1)) rfl
theorem dL_isTouched_319 : decode cL_isTouched 319 = .ok (.aload_n 0, 1) := sl_row ag_isTouched_4 gl_isTouched_4 (i := 36) (r := (63, .aload_n 0, 1)) rfl
def ck_isTouched_5 : ByteArray := .mk #[0xb4, 0x00, 0x1d, 0x15, 0x07, 0x2e, 0x2a, 0xb4, 0x00, 0x1d, 0x15, 0x06, 0x2e, 0x64, 0x68, 0x60, 0x9e, 0x00, 0x07, 0x04, 0xa7, 0x00, 0x04, 0x03, 0x36, 0x08, 0x15, 0x08, 0x99, 0x00, 0x05, 0x04, 0xac, 0x84, 0x03, 0x01, 0xa7, 0xfe, 0xfd, 0x84, 0x02, 0x01, 0xa7, 0xfe, 0xeb, 0x03, 0xac]
set_option maxRecDepth 20000 in
theorem ag_isTouched_5 : ∀ q, agB cL_isTouched ck_isTouched_5 (320 + q) q := agB_of 320 (by decide +kernel)
def tl_isTouched_5 : List (Nat × Instr × Nat) := [(0, .getfield 29, 3), (3, .iload 7, 2), (5, .iaload, 1), (6, .aload_n 0, 1), (7, .getfield 29, 3), (10, .iload 6, 2), (12, .iaload, 1), (13, .isub, 1), (14, .imul, 1), (15, .iadd, 1), (16, .ifCond .le 7, 3), (19, .iconst 1, 1), (20, .goto 4, 3), (23, .iconst 0, 1), (24, .istore 8, 2), (26, .iload 8, 2), (28, .ifCond .eq 5, 3), (31, .iconst 1, 1), (32, .ireturn, 1), (33, .iinc 3 1, 3), (36, .goto (-259), 3), (39, .iinc 2 1, 3), (42, .goto (-277), 3), (45, .iconst 0, 1), (46, .ireturn, 1)]
theorem gl_isTouched_5 : tl_isTouched_5.all (fun r => opB ck_isTouched_5 r.1 && decide (decode ck_isTouched_5 r.1 = .ok (r.2.1, r.2.2))) = true := by decide +kernel
theorem dL_isTouched_320 : decode cL_isTouched 320 = .ok (.getfield 29, 3) := sl_row ag_isTouched_5 gl_isTouched_5 (i := 0) (r := (0, .getfield 29, 3)) rfl
theorem dL_isTouched_323 : decode cL_isTouched 323 = .ok (.iload 7, 2) := sl_row ag_isTouched_5 gl_isTouched_5 (i := 1) (r := (3, .iload 7, 2)) rfl
theorem dL_isTouched_325 : decode cL_isTouched 325 = .ok (.iaload, 1) := sl_row ag_isTouched_5 gl_isTouched_5 (i := 2) (r := (5, .iaload, 1)) rfl
theorem dL_isTouched_326 : decode cL_isTouched 326 = .ok (.aload_n 0, 1) := sl_row ag_isTouched_5 gl_isTouched_5 (i := 3) (r := (6, .aload_n 0, 1)) rfl
theorem dL_isTouched_327 : decode cL_isTouched 327 = .ok (.getfield 29, 3) := sl_row ag_isTouched_5 gl_isTouched_5 (i := 4) (r := (7, .getfield 29, 3)) rfl
theorem dL_isTouched_330 : decode cL_isTouched 330 = .ok (.iload 6, 2) := sl_row ag_isTouched_5 gl_isTouched_5 (i := 5) (r := (10, .iload 6, 2)) rfl
theorem dL_isTouched_332 : decode cL_isTouched 332 = .ok (.iaload, 1) := sl_row ag_isTouched_5 gl_isTouched_5 (i := 6) (r := (12, .iaload, 1)) rfl
theorem dL_isTouched_333 : decode cL_isTouched 333 = .ok (.isub, 1) := sl_row ag_isTouched_5 gl_isTouched_5 (i := 7) (r := (13, .isub, 1)) rfl
theorem dL_isTouched_334 : decode cL_isTouched 334 = .ok (.imul, 1) := sl_row ag_isTouched_5 gl_isTouched_5 (i := 8) (r := (14, .imul, 1)) rfl
theorem dL_isTouched_335 : decode cL_isTouched 335 = .ok (.iadd, 1) := sl_row ag_isTouched_5 gl_isTouched_5 (i := 9) (r := (15, .iadd, 1)) rfl
theorem dL_isTouched_336 : decode cL_isTouched 336 = .ok (.ifCond .le 7, 3) := sl_row ag_isTouched_5 gl_isTouched_5 (i := 10) (r := (16, .ifCond .le 7, 3)) rfl
theorem dL_isTouched_339 : decode cL_isTouched 339 = .ok (.iconst 1, 1) := sl_row ag_isTouched_5 gl_isTouched_5 (i := 11) (r := (19, .iconst 1, 1)) rfl
theorem dL_isTouched_340 : decode cL_isTouched 340 = .ok (.goto 4, 3) := sl_row ag_isTouched_5 gl_isTouched_5 (i := 12) (r := (20, .goto 4, 3)) rfl
theorem dL_isTouched_343 : decode cL_isTouched 343 = .ok (.iconst 0, 1) := sl_row ag_isTouched_5 gl_isTouched_5 (i := 13) (r := (23, .iconst 0, 1)) rfl
theorem dL_isTouched_344 : decode cL_isTouched 344 = .ok (.istore 8, 2) := sl_row ag_isTouched_5 gl_isTouched_5 (i := 14) (r := (24, .istore 8, 2)) rfl
theorem dL_isTouched_346 : decode cL_isTouched 346 = .ok (.iload 8, 2) := sl_row ag_isTouched_5 gl_isTouched_5 (i := 15) (r := (26, .iload 8, 2)) rfl
theorem dL_isTouched_348 : decode cL_isTouched 348 = .ok (.ifCond .eq 5, 3) := sl_row ag_isTouched_5 gl_isTouched_5 (i := 16) (r := (28, .ifCond .eq 5, 3)) rfl
theorem dL_isTouched_351 : decode cL_isTouched 351 = .ok (.iconst 1, 1) := sl_row ag_isTouched_5 gl_isTouched_5 (i := 17) (r := (31, .iconst 1, 1)) rfl
theorem dL_isTouched_352 : decode cL_isTouched 352 = .ok (.ireturn, 1) := sl_row ag_isTouched_5 gl_isTouched_5 (i := 18) (r := (32, .ireturn, 1)) rfl
theorem dL_isTouched_353 : decode cL_isTouched 353 = .ok (.iinc 3 1, 3) := sl_row ag_isTouched_5 gl_isTouched_5 (i := 19) (r := (33, .iinc 3 1, 3)) rfl
theorem dL_isTouched_356 : decode cL_isTouched 356 = .ok (.goto (-259), 3) := sl_row ag_isTouched_5 gl_isTouched_5 (i := 20) (r := (36, .goto (-259), 3)) rfl
theorem dL_isTouched_359 : decode cL_isTouched 359 = .ok (.iinc 2 1, 3) := sl_row ag_isTouched_5 gl_isTouched_5 (i := 21) (r := (39, .iinc 2 1, 3)) rfl
theorem dL_isTouched_362 : decode cL_isTouched 362 = .ok (.goto (-277), 3) := sl_row ag_isTouched_5 gl_isTouched_5 (i := 22) (r := (42, .goto (-277), 3)) rfl
theorem dL_isTouched_365 : decode cL_isTouched 365 = .ok (.iconst 0, 1) := sl_row ag_isTouched_5 gl_isTouched_5 (i := 23) (r := (45, .iconst 0, 1)) rfl
theorem dL_isTouched_366 : decode cL_isTouched 366 = .ok (.ireturn, 1) := sl_row ag_isTouched_5 gl_isTouched_5 (i := 24) (r := (46, .ireturn, 1)) rfl
def ck_isParted_0 : ByteArray := .mk #[0x2a, 0xb4, 0x00, 0x0a, 0x1b, 0xb6, 0x00, 0xdf, 0x3e, 0x03, 0x36, 0x04, 0x03, 0x36, 0x05, 0x15, 0x05, 0x1d, 0xa2, 0x00, 0xa4, 0x2a, 0xb4, 0x00, 0x0a, 0x1b, 0x15, 0x05, 0xb6, 0x00, 0xe2, 0x36, 0x06, 0x15, 0x06, 0x11, 0x27, 0x10, 0x6c, 0x36, 0x07, 0x15, 0x06, 0x10, 0x64, 0x6c, 0x10, 0x64, 0x70, 0x36, 0x08, 0x15, 0x06, 0x10, 0x64, 0x70, 0x36, 0x09, 0x15, 0x04, 0x2a, 0xb4, 0x00, 0x1a, 0x15, 0x08, 0x2e, 0x2a]
set_option maxRecDepth 20000 in
theorem ag_isParted_0 : ∀ q, agB cL_isParted ck_isParted_0 (0 + q) q := agB_of 0 (by decide +kernel)
def tl_isParted_0 : List (Nat × Instr × Nat) := [(0, .aload_n 0, 1), (1, .getfield 10, 3), (4, .iload_n 1, 1), (5, .invokevirtual 223, 3), (8, .istore_n 3, 1), (9, .iconst 0, 1), (10, .istore 4, 2), (12, .iconst 0, 1), (13, .istore 5, 2), (15, .iload 5, 2), (17, .iload_n 3, 1), (18, .if_icmp .ge 164, 3), (21, .aload_n 0, 1), (22, .getfield 10, 3), (25, .iload_n 1, 1), (26, .iload 5, 2), (28, .invokevirtual 226, 3), (31, .istore 6, 2), (33, .iload 6, 2), (35, .sipush 10000, 3), (38, .idiv, 1), (39, .istore 7, 2), (41, .iload 6, 2), (43, .bipush 100, 2), (45, .idiv, 1), (46, .bipush 100, 2), (48, .irem, 1), (49, .istore 8, 2), (51, .iload 6, 2), (53, .bipush 100, 2), (55, .irem, 1), (56, .istore 9, 2), (58, .iload 4, 2), (60, .aload_n 0, 1), (61, .getfield 26, 3)]
theorem gl_isParted_0 : tl_isParted_0.all (fun r => opB ck_isParted_0 r.1 && decide (decode ck_isParted_0 r.1 = .ok (r.2.1, r.2.2))) = true := by decide +kernel
theorem dL_isParted_0 : decode cL_isParted 0 = .ok (.aload_n 0, 1) := sl_row ag_isParted_0 gl_isParted_0 (i := 0) (r := (0, .aload_n 0, 1)) rfl
theorem dL_isParted_1 : decode cL_isParted 1 = .ok (.getfield 10, 3) := sl_row ag_isParted_0 gl_isParted_0 (i := 1) (r := (1, .getfield 10, 3)) rfl
theorem dL_isParted_4 : decode cL_isParted 4 = .ok (.iload_n 1, 1) := sl_row ag_isParted_0 gl_isParted_0 (i := 2) (r := (4, .iload_n 1, 1)) rfl
theorem dL_isParted_5 : decode cL_isParted 5 = .ok (.invokevirtual 223, 3) := sl_row ag_isParted_0 gl_isParted_0 (i := 3) (r := (5, .invokevirtual 223, 3)) rfl
theorem dL_isParted_8 : decode cL_isParted 8 = .ok (.istore_n 3, 1) := sl_row ag_isParted_0 gl_isParted_0 (i := 4) (r := (8, .istore_n 3, 1)) rfl
theorem dL_isParted_9 : decode cL_isParted 9 = .ok (.iconst 0, 1) := sl_row ag_isParted_0 gl_isParted_0 (i := 5) (r := (9, .iconst 0, 1)) rfl
theorem dL_isParted_10 : decode cL_isParted 10 = .ok (.istore 4, 2) := sl_row ag_isParted_0 gl_isParted_0 (i := 6) (r := (10, .istore 4, 2)) rfl
theorem dL_isParted_12 : decode cL_isParted 12 = .ok (.iconst 0, 1) := sl_row ag_isParted_0 gl_isParted_0 (i := 7) (r := (12, .iconst 0, 1)) rfl
theorem dL_isParted_13 : decode cL_isParted 13 = .ok (.istore 5, 2) := sl_row ag_isParted_0 gl_isParted_0 (i := 8) (r := (13, .istore 5, 2)) rfl
theorem dL_isParted_15 : decode cL_isParted 15 = .ok (.iload 5, 2) := sl_row ag_isParted_0 gl_isParted_0 (i := 9) (r := (15, .iload 5, 2)) rfl
theorem dL_isParted_17 : decode cL_isParted 17 = .ok (.iload_n 3, 1) := sl_row ag_isParted_0 gl_isParted_0 (i := 10) (r := (17, .iload_n 3, 1)) rfl
theorem dL_isParted_18 : decode cL_isParted 18 = .ok (.if_icmp .ge 164, 3) := sl_row ag_isParted_0 gl_isParted_0 (i := 11) (r := (18, .if_icmp .ge 164, 3)) rfl
theorem dL_isParted_21 : decode cL_isParted 21 = .ok (.aload_n 0, 1) := sl_row ag_isParted_0 gl_isParted_0 (i := 12) (r := (21, .aload_n 0, 1)) rfl
theorem dL_isParted_22 : decode cL_isParted 22 = .ok (.getfield 10, 3) := sl_row ag_isParted_0 gl_isParted_0 (i := 13) (r := (22, .getfield 10, 3)) rfl
theorem dL_isParted_25 : decode cL_isParted 25 = .ok (.iload_n 1, 1) := sl_row ag_isParted_0 gl_isParted_0 (i := 14) (r := (25, .iload_n 1, 1)) rfl
theorem dL_isParted_26 : decode cL_isParted 26 = .ok (.iload 5, 2) := sl_row ag_isParted_0 gl_isParted_0 (i := 15) (r := (26, .iload 5, 2)) rfl
theorem dL_isParted_28 : decode cL_isParted 28 = .ok (.invokevirtual 226, 3) := sl_row ag_isParted_0 gl_isParted_0 (i := 16) (r := (28, .invokevirtual 226, 3)) rfl
theorem dL_isParted_31 : decode cL_isParted 31 = .ok (.istore 6, 2) := sl_row ag_isParted_0 gl_isParted_0 (i := 17) (r := (31, .istore 6, 2)) rfl
theorem dL_isParted_33 : decode cL_isParted 33 = .ok (.iload 6, 2) := sl_row ag_isParted_0 gl_isParted_0 (i := 18) (r := (33, .iload 6, 2)) rfl
theorem dL_isParted_35 : decode cL_isParted 35 = .ok (.sipush 10000, 3) := sl_row ag_isParted_0 gl_isParted_0 (i := 19) (r := (35, .sipush 10000, 3)) rfl
theorem dL_isParted_38 : decode cL_isParted 38 = .ok (.idiv, 1) := sl_row ag_isParted_0 gl_isParted_0 (i := 20) (r := (38, .idiv, 1)) rfl
theorem dL_isParted_39 : decode cL_isParted 39 = .ok (.istore 7, 2) := sl_row ag_isParted_0 gl_isParted_0 (i := 21) (r := (39, .istore 7, 2)) rfl
theorem dL_isParted_41 : decode cL_isParted 41 = .ok (.iload 6, 2) := sl_row ag_isParted_0 gl_isParted_0 (i := 22) (r := (41, .iload 6, 2)) rfl
theorem dL_isParted_43 : decode cL_isParted 43 = .ok (.bipush 100, 2) := sl_row ag_isParted_0 gl_isParted_0 (i := 23) (r := (43, .bipush 100, 2)) rfl
theorem dL_isParted_45 : decode cL_isParted 45 = .ok (.idiv, 1) := sl_row ag_isParted_0 gl_isParted_0 (i := 24) (r := (45, .idiv, 1)) rfl
theorem dL_isParted_46 : decode cL_isParted 46 = .ok (.bipush 100, 2) := sl_row ag_isParted_0 gl_isParted_0 (i := 25) (r := (46, .bipush 100, 2)) rfl
theorem dL_isParted_48 : decode cL_isParted 48 = .ok (.irem, 1) := sl_row ag_isParted_0 gl_isParted_0 (i := 26) (r := (48, .irem, 1)) rfl
theorem dL_isParted_49 : decode cL_isParted 49 = .ok (.istore 8, 2) := sl_row ag_isParted_0 gl_isParted_0 (i := 27) (r := (49, .istore 8, 2)) rfl
theorem dL_isParted_51 : decode cL_isParted 51 = .ok (.iload 6, 2) := sl_row ag_isParted_0 gl_isParted_0 (i := 28) (r := (51, .iload 6, 2)) rfl
theorem dL_isParted_53 : decode cL_isParted 53 = .ok (.bipush 100, 2) := sl_row ag_isParted_0 gl_isParted_0 (i := 29) (r := (53, .bipush 100, 2)) rfl
theorem dL_isParted_55 : decode cL_isParted 55 = .ok (.irem, 1) := sl_row ag_isParted_0 gl_isParted_0 (i := 30) (r := (55, .irem, 1)) rfl
theorem dL_isParted_56 : decode cL_isParted 56 = .ok (.istore 9, 2) := sl_row ag_isParted_0 gl_isParted_0 (i := 31) (r := (56, .istore 9, 2)) rfl
theorem dL_isParted_58 : decode cL_isParted 58 = .ok (.iload 4, 2) := sl_row ag_isParted_0 gl_isParted_0 (i := 32) (r := (58, .iload 4, 2)) rfl
theorem dL_isParted_60 : decode cL_isParted 60 = .ok (.aload_n 0, 1) := sl_row ag_isParted_0 gl_isParted_0 (i := 33) (r := (60, .aload_n 0, 1)) rfl
theorem dL_isParted_61 : decode cL_isParted 61 = .ok (.getfield 26, 3) := sl_row ag_isParted_0 gl_isParted_0 (i := 34) (r := (61, .getfield 26, 3)) rfl
def ck_isParted_1 : ByteArray := .mk #[0x15, 0x08, 0x2e, 0x2a, 0xb4, 0x00, 0x1a, 0x15, 0x07, 0x2e, 0x64, 0x2a, 0xb4, 0x00, 0x1d, 0x15, 0x09, 0x2e, 0x2a, 0xb4, 0x00, 0x1d, 0x15, 0x07, 0x2e, 0x64, 0x68, 0x2a, 0xb4, 0x00, 0x1d, 0x15, 0x08, 0x2e, 0x2a, 0xb4, 0x00, 0x1d, 0x15, 0x07, 0x2e, 0x64, 0x2a, 0xb4, 0x00, 0x1a, 0x15, 0x09, 0x2e, 0x2a, 0xb4, 0x00, 0x1a, 0x15, 0x07, 0x2e, 0x64, 0x68, 0x64, 0xb8, 0x00, 0x2b, 0x60, 0x36, 0x04, 0x2a, 0xb4, 0x00]
set_option maxRecDepth 20000 in
theorem ag_isParted_1 : ∀ q, agB cL_isParted ck_isParted_1 (64 + q) q := agB_of 64 (by decide +kernel)
def tl_isParted_1 : List (Nat × Instr × Nat) := [(0, .iload 8, 2), (2, .iaload, 1), (3, .aload_n 0, 1), (4, .getfield 26, 3), (7, .iload 7, 2), (9, .iaload, 1), (10, .isub, 1), (11, .aload_n 0, 1), (12, .getfield 29, 3), (15, .iload 9, 2), (17, .iaload, 1), (18, .aload_n 0, 1), (19, .getfield 29, 3), (22, .iload 7, 2), (24, .iaload, 1), (25, .isub, 1), (26, .imul, 1), (27, .aload_n 0, 1), (28, .getfield 29, 3), (31, .iload 8, 2), (33, .iaload, 1), (34, .aload_n 0, 1), (35, .getfield 29, 3), (38, .iload 7, 2), (40, .iaload, 1), (41, .isub, 1), (42, .aload_n 0, 1), (43, .getfield 26, 3), (46, .iload 9, 2), (48, .iaload, 1), (49, .aload_n 0, 1), (50, .getfield 26, 3), (53, .iload 7, 2), (55, .iaload, 1), (56, .isub, 1), (57, .imul, 1), (58, .isub, 1), (59, .invokestatic 43, 3), (62, .iadd, 1), (63, .istore 4, 2)]
theorem gl_isParted_1 : tl_isParted_1.all (fun r => opB ck_isParted_1 r.1 && decide (decode ck_isParted_1 r.1 = .ok (r.2.1, r.2.2))) = true := by decide +kernel
theorem dL_isParted_64 : decode cL_isParted 64 = .ok (.iload 8, 2) := sl_row ag_isParted_1 gl_isParted_1 (i := 0) (r := (0, .iload 8, 2)) rfl
theorem dL_isParted_66 : decode cL_isParted 66 = .ok (.iaload, 1) := sl_row ag_isParted_1 gl_isParted_1 (i := 1) (r := (2, .iaload, 1)) rfl
theorem dL_isParted_67 : decode cL_isParted 67 = .ok (.aload_n 0, 1) := sl_row ag_isParted_1 gl_isParted_1 (i := 2) (r := (3, .aload_n 0, 1)) rfl
theorem dL_isParted_68 : decode cL_isParted 68 = .ok (.getfield 26, 3) := sl_row ag_isParted_1 gl_isParted_1 (i := 3) (r := (4, .getfield 26, 3)) rfl
theorem dL_isParted_71 : decode cL_isParted 71 = .ok (.iload 7, 2) := sl_row ag_isParted_1 gl_isParted_1 (i := 4) (r := (7, .iload 7, 2)) rfl
theorem dL_isParted_73 : decode cL_isParted 73 = .ok (.iaload, 1) := sl_row ag_isParted_1 gl_isParted_1 (i := 5) (r := (9, .iaload, 1)) rfl
theorem dL_isParted_74 : decode cL_isParted 74 = .ok (.isub, 1) := sl_row ag_isParted_1 gl_isParted_1 (i := 6) (r := (10, .isub, 1)) rfl
theorem dL_isParted_75 : decode cL_isParted 75 = .ok (.aload_n 0, 1) := sl_row ag_isParted_1 gl_isParted_1 (i := 7) (r := (11, .aload_n 0, 1)) rfl
theorem dL_isParted_76 : decode cL_isParted 76 = .ok (.getfield 29, 3) := sl_row ag_isParted_1 gl_isParted_1 (i := 8) (r := (12, .getfield 29, 3)) rfl
theorem dL_isParted_79 : decode cL_isParted 79 = .ok (.iload 9, 2) := sl_row ag_isParted_1 gl_isParted_1 (i := 9) (r := (15, .iload 9, 2)) rfl
theorem dL_isParted_81 : decode cL_isParted 81 = .ok (.iaload, 1) := sl_row ag_isParted_1 gl_isParted_1 (i := 10) (r := (17, .iaload, 1)) rfl
theorem dL_isParted_82 : decode cL_isParted 82 = .ok (.aload_n 0, 1) := sl_row ag_isParted_1 gl_isParted_1 (i := 11) (r := (18, .aload_n 0, 1)) rfl
theorem dL_isParted_83 : decode cL_isParted 83 = .ok (.getfield 29, 3) := sl_row ag_isParted_1 gl_isParted_1 (i := 12) (r := (19, .getfield 29, 3)) rfl
theorem dL_isParted_86 : decode cL_isParted 86 = .ok (.iload 7, 2) := sl_row ag_isParted_1 gl_isParted_1 (i := 13) (r := (22, .iload 7, 2)) rfl
theorem dL_isParted_88 : decode cL_isParted 88 = .ok (.iaload, 1) := sl_row ag_isParted_1 gl_isParted_1 (i := 14) (r := (24, .iaload, 1)) rfl
theorem dL_isParted_89 : decode cL_isParted 89 = .ok (.isub, 1) := sl_row ag_isParted_1 gl_isParted_1 (i := 15) (r := (25, .isub, 1)) rfl
theorem dL_isParted_90 : decode cL_isParted 90 = .ok (.imul, 1) := sl_row ag_isParted_1 gl_isParted_1 (i := 16) (r := (26, .imul, 1)) rfl
theorem dL_isParted_91 : decode cL_isParted 91 = .ok (.aload_n 0, 1) := sl_row ag_isParted_1 gl_isParted_1 (i := 17) (r := (27, .aload_n 0, 1)) rfl
theorem dL_isParted_92 : decode cL_isParted 92 = .ok (.getfield 29, 3) := sl_row ag_isParted_1 gl_isParted_1 (i := 18) (r := (28, .getfield 29, 3)) rfl
theorem dL_isParted_95 : decode cL_isParted 95 = .ok (.iload 8, 2) := sl_row ag_isParted_1 gl_isParted_1 (i := 19) (r := (31, .iload 8, 2)) rfl
theorem dL_isParted_97 : decode cL_isParted 97 = .ok (.iaload, 1) := sl_row ag_isParted_1 gl_isParted_1 (i := 20) (r := (33, .iaload, 1)) rfl
theorem dL_isParted_98 : decode cL_isParted 98 = .ok (.aload_n 0, 1) := sl_row ag_isParted_1 gl_isParted_1 (i := 21) (r := (34, .aload_n 0, 1)) rfl
theorem dL_isParted_99 : decode cL_isParted 99 = .ok (.getfield 29, 3) := sl_row ag_isParted_1 gl_isParted_1 (i := 22) (r := (35, .getfield 29, 3)) rfl
theorem dL_isParted_102 : decode cL_isParted 102 = .ok (.iload 7, 2) := sl_row ag_isParted_1 gl_isParted_1 (i := 23) (r := (38, .iload 7, 2)) rfl
theorem dL_isParted_104 : decode cL_isParted 104 = .ok (.iaload, 1) := sl_row ag_isParted_1 gl_isParted_1 (i := 24) (r := (40, .iaload, 1)) rfl
theorem dL_isParted_105 : decode cL_isParted 105 = .ok (.isub, 1) := sl_row ag_isParted_1 gl_isParted_1 (i := 25) (r := (41, .isub, 1)) rfl
theorem dL_isParted_106 : decode cL_isParted 106 = .ok (.aload_n 0, 1) := sl_row ag_isParted_1 gl_isParted_1 (i := 26) (r := (42, .aload_n 0, 1)) rfl
theorem dL_isParted_107 : decode cL_isParted 107 = .ok (.getfield 26, 3) := sl_row ag_isParted_1 gl_isParted_1 (i := 27) (r := (43, .getfield 26, 3)) rfl
theorem dL_isParted_110 : decode cL_isParted 110 = .ok (.iload 9, 2) := sl_row ag_isParted_1 gl_isParted_1 (i := 28) (r := (46, .iload 9, 2)) rfl
theorem dL_isParted_112 : decode cL_isParted 112 = .ok (.iaload, 1) := sl_row ag_isParted_1 gl_isParted_1 (i := 29) (r := (48, .iaload, 1)) rfl
theorem dL_isParted_113 : decode cL_isParted 113 = .ok (.aload_n 0, 1) := sl_row ag_isParted_1 gl_isParted_1 (i := 30) (r := (49, .aload_n 0, 1)) rfl
theorem dL_isParted_114 : decode cL_isParted 114 = .ok (.getfield 26, 3) := sl_row ag_isParted_1 gl_isParted_1 (i := 31) (r := (50, .getfield 26, 3)) rfl
theorem dL_isParted_117 : decode cL_isParted 117 = .ok (.iload 7, 2) := sl_row ag_isParted_1 gl_isParted_1 (i := 32) (r := (53, .iload 7, 2)) rfl
theorem dL_isParted_119 : decode cL_isParted 119 = .ok (.iaload, 1) := sl_row ag_isParted_1 gl_isParted_1 (i := 33) (r := (55, .iaload, 1)) rfl
theorem dL_isParted_120 : decode cL_isParted 120 = .ok (.isub, 1) := sl_row ag_isParted_1 gl_isParted_1 (i := 34) (r := (56, .isub, 1)) rfl
theorem dL_isParted_121 : decode cL_isParted 121 = .ok (.imul, 1) := sl_row ag_isParted_1 gl_isParted_1 (i := 35) (r := (57, .imul, 1)) rfl
theorem dL_isParted_122 : decode cL_isParted 122 = .ok (.isub, 1) := sl_row ag_isParted_1 gl_isParted_1 (i := 36) (r := (58, .isub, 1)) rfl
theorem dL_isParted_123 : decode cL_isParted 123 = .ok (.invokestatic 43, 3) := sl_row ag_isParted_1 gl_isParted_1 (i := 37) (r := (59, .invokestatic 43, 3)) rfl
theorem dL_isParted_126 : decode cL_isParted 126 = .ok (.iadd, 1) := sl_row ag_isParted_1 gl_isParted_1 (i := 38) (r := (62, .iadd, 1)) rfl
theorem dL_isParted_127 : decode cL_isParted 127 = .ok (.istore 4, 2) := sl_row ag_isParted_1 gl_isParted_1 (i := 39) (r := (63, .istore 4, 2)) rfl
def ck_isParted_2 : ByteArray := .mk #[0x04, 0x2a, 0xb4, 0x00, 0x0a, 0x1b, 0x15, 0x07, 0x15, 0x09, 0xb6, 0x00, 0xe5, 0x99, 0x00, 0x21, 0x2a, 0xb4, 0x00, 0x0a, 0x1b, 0x15, 0x07, 0x15, 0x08, 0xb6, 0x00, 0xe5, 0x99, 0x00, 0x12, 0x2a, 0xb4, 0x00, 0x0a, 0x1b, 0x15, 0x08, 0x15, 0x09, 0xb6, 0x00, 0xe5, 0x9a, 0x00, 0x05, 0x03, 0xac, 0x84, 0x05, 0x01, 0xa7, 0xff, 0x5c, 0x1d, 0x2a, 0xb4, 0x00, 0xae, 0x05, 0x64, 0xa0, 0x00, 0x0d, 0x15, 0x04, 0x1c, 0xa0]
set_option maxRecDepth 20000 in
theorem ag_isParted_2 : ∀ q, agB cL_isParted ck_isParted_2 (128 + q) q := agB_of 128 (by decide +kernel)
def tl_isParted_2 : List (Nat × Instr × Nat) := [(1, .aload_n 0, 1), (2, .getfield 10, 3), (5, .iload_n 1, 1), (6, .iload 7, 2), (8, .iload 9, 2), (10, .invokevirtual 229, 3), (13, .ifCond .eq 33, 3), (16, .aload_n 0, 1), (17, .getfield 10, 3), (20, .iload_n 1, 1), (21, .iload 7, 2), (23, .iload 8, 2), (25, .invokevirtual 229, 3), (28, .ifCond .eq 18, 3), (31, .aload_n 0, 1), (32, .getfield 10, 3), (35, .iload_n 1, 1), (36, .iload 8, 2), (38, .iload 9, 2), (40, .invokevirtual 229, 3), (43, .ifCond .ne 5, 3), (46, .iconst 0, 1), (47, .ireturn, 1), (48, .iinc 5 1, 3), (51, .goto (-164), 3), (54, .iload_n 3, 1), (55, .aload_n 0, 1), (56, .getfield 174, 3), (59, .iconst 2, 1), (60, .isub, 1), (61, .if_icmp .ne 13, 3)]
theorem gl_isParted_2 : tl_isParted_2.all (fun r => opB ck_isParted_2 r.1 && decide (decode ck_isParted_2 r.1 = .ok (r.2.1, r.2.2))) = true := by decide +kernel
theorem dL_isParted_129 : decode cL_isParted 129 = .ok (.aload_n 0, 1) := sl_row ag_isParted_2 gl_isParted_2 (i := 0) (r := (1, .aload_n 0, 1)) rfl
theorem dL_isParted_130 : decode cL_isParted 130 = .ok (.getfield 10, 3) := sl_row ag_isParted_2 gl_isParted_2 (i := 1) (r := (2, .getfield 10, 3)) rfl
theorem dL_isParted_133 : decode cL_isParted 133 = .ok (.iload_n 1, 1) := sl_row ag_isParted_2 gl_isParted_2 (i := 2) (r := (5, .iload_n 1, 1)) rfl
theorem dL_isParted_134 : decode cL_isParted 134 = .ok (.iload 7, 2) := sl_row ag_isParted_2 gl_isParted_2 (i := 3) (r := (6, .iload 7, 2)) rfl
theorem dL_isParted_136 : decode cL_isParted 136 = .ok (.iload 9, 2) := sl_row ag_isParted_2 gl_isParted_2 (i := 4) (r := (8, .iload 9, 2)) rfl
theorem dL_isParted_138 : decode cL_isParted 138 = .ok (.invokevirtual 229, 3) := sl_row ag_isParted_2 gl_isParted_2 (i := 5) (r := (10, .invokevirtual 229, 3)) rfl
theorem dL_isParted_141 : decode cL_isParted 141 = .ok (.ifCond .eq 33, 3) := sl_row ag_isParted_2 gl_isParted_2 (i := 6) (r := (13, .ifCond .eq 33, 3)) rfl
theorem dL_isParted_144 : decode cL_isParted 144 = .ok (.aload_n 0, 1) := sl_row ag_isParted_2 gl_isParted_2 (i := 7) (r := (16, .aload_n 0, 1)) rfl
theorem dL_isParted_145 : decode cL_isParted 145 = .ok (.getfield 10, 3) := sl_row ag_isParted_2 gl_isParted_2 (i := 8) (r := (17, .getfield 10, 3)) rfl
theorem dL_isParted_148 : decode cL_isParted 148 = .ok (.iload_n 1, 1) := sl_row ag_isParted_2 gl_isParted_2 (i := 9) (r := (20, .iload_n 1, 1)) rfl
theorem dL_isParted_149 : decode cL_isParted 149 = .ok (.iload 7, 2) := sl_row ag_isParted_2 gl_isParted_2 (i := 10) (r := (21, .iload 7, 2)) rfl
theorem dL_isParted_151 : decode cL_isParted 151 = .ok (.iload 8, 2) := sl_row ag_isParted_2 gl_isParted_2 (i := 11) (r := (23, .iload 8, 2)) rfl
theorem dL_isParted_153 : decode cL_isParted 153 = .ok (.invokevirtual 229, 3) := sl_row ag_isParted_2 gl_isParted_2 (i := 12) (r := (25, .invokevirtual 229, 3)) rfl
theorem dL_isParted_156 : decode cL_isParted 156 = .ok (.ifCond .eq 18, 3) := sl_row ag_isParted_2 gl_isParted_2 (i := 13) (r := (28, .ifCond .eq 18, 3)) rfl
theorem dL_isParted_159 : decode cL_isParted 159 = .ok (.aload_n 0, 1) := sl_row ag_isParted_2 gl_isParted_2 (i := 14) (r := (31, .aload_n 0, 1)) rfl
theorem dL_isParted_160 : decode cL_isParted 160 = .ok (.getfield 10, 3) := sl_row ag_isParted_2 gl_isParted_2 (i := 15) (r := (32, .getfield 10, 3)) rfl
theorem dL_isParted_163 : decode cL_isParted 163 = .ok (.iload_n 1, 1) := sl_row ag_isParted_2 gl_isParted_2 (i := 16) (r := (35, .iload_n 1, 1)) rfl
theorem dL_isParted_164 : decode cL_isParted 164 = .ok (.iload 8, 2) := sl_row ag_isParted_2 gl_isParted_2 (i := 17) (r := (36, .iload 8, 2)) rfl
theorem dL_isParted_166 : decode cL_isParted 166 = .ok (.iload 9, 2) := sl_row ag_isParted_2 gl_isParted_2 (i := 18) (r := (38, .iload 9, 2)) rfl
theorem dL_isParted_168 : decode cL_isParted 168 = .ok (.invokevirtual 229, 3) := sl_row ag_isParted_2 gl_isParted_2 (i := 19) (r := (40, .invokevirtual 229, 3)) rfl
theorem dL_isParted_171 : decode cL_isParted 171 = .ok (.ifCond .ne 5, 3) := sl_row ag_isParted_2 gl_isParted_2 (i := 20) (r := (43, .ifCond .ne 5, 3)) rfl
theorem dL_isParted_174 : decode cL_isParted 174 = .ok (.iconst 0, 1) := sl_row ag_isParted_2 gl_isParted_2 (i := 21) (r := (46, .iconst 0, 1)) rfl
theorem dL_isParted_175 : decode cL_isParted 175 = .ok (.ireturn, 1) := sl_row ag_isParted_2 gl_isParted_2 (i := 22) (r := (47, .ireturn, 1)) rfl
theorem dL_isParted_176 : decode cL_isParted 176 = .ok (.iinc 5 1, 3) := sl_row ag_isParted_2 gl_isParted_2 (i := 23) (r := (48, .iinc 5 1, 3)) rfl
theorem dL_isParted_179 : decode cL_isParted 179 = .ok (.goto (-164), 3) := sl_row ag_isParted_2 gl_isParted_2 (i := 24) (r := (51, .goto (-164), 3)) rfl
theorem dL_isParted_182 : decode cL_isParted 182 = .ok (.iload_n 3, 1) := sl_row ag_isParted_2 gl_isParted_2 (i := 25) (r := (54, .iload_n 3, 1)) rfl
theorem dL_isParted_183 : decode cL_isParted 183 = .ok (.aload_n 0, 1) := sl_row ag_isParted_2 gl_isParted_2 (i := 26) (r := (55, .aload_n 0, 1)) rfl
theorem dL_isParted_184 : decode cL_isParted 184 = .ok (.getfield 174, 3) := sl_row ag_isParted_2 gl_isParted_2 (i := 27) (r := (56, .getfield 174, 3)) rfl
theorem dL_isParted_187 : decode cL_isParted 187 = .ok (.iconst 2, 1) := sl_row ag_isParted_2 gl_isParted_2 (i := 28) (r := (59, .iconst 2, 1)) rfl
theorem dL_isParted_188 : decode cL_isParted 188 = .ok (.isub, 1) := sl_row ag_isParted_2 gl_isParted_2 (i := 29) (r := (60, .isub, 1)) rfl
theorem dL_isParted_189 : decode cL_isParted 189 = .ok (.if_icmp .ne 13, 3) := sl_row ag_isParted_2 gl_isParted_2 (i := 30) (r := (61, .if_icmp .ne 13, 3)) rfl
def ck_isParted_3 : ByteArray := .mk #[0x15, 0x04, 0x1c, 0xa0, 0x00, 0x07, 0x04, 0xa7, 0x00, 0x04, 0x03, 0xac]
set_option maxRecDepth 20000 in
theorem ag_isParted_3 : ∀ q, agB cL_isParted ck_isParted_3 (192 + q) q := agB_of 192 (by decide +kernel)
def tl_isParted_3 : List (Nat × Instr × Nat) := [(0, .iload 4, 2), (2, .iload_n 2, 1), (3, .if_icmp .ne 7, 3), (6, .iconst 1, 1), (7, .goto 4, 3), (10, .iconst 0, 1), (11, .ireturn, 1)]
theorem gl_isParted_3 : tl_isParted_3.all (fun r => opB ck_isParted_3 r.1 && decide (decode ck_isParted_3 r.1 = .ok (r.2.1, r.2.2))) = true := by decide +kernel
theorem dL_isParted_192 : decode cL_isParted 192 = .ok (.iload 4, 2) := sl_row ag_isParted_3 gl_isParted_3 (i := 0) (r := (0, .iload 4, 2)) rfl
theorem dL_isParted_194 : decode cL_isParted 194 = .ok (.iload_n 2, 1) := sl_row ag_isParted_3 gl_isParted_3 (i := 1) (r := (2, .iload_n 2, 1)) rfl
theorem dL_isParted_195 : decode cL_isParted 195 = .ok (.if_icmp .ne 7, 3) := sl_row ag_isParted_3 gl_isParted_3 (i := 2) (r := (3, .if_icmp .ne 7, 3)) rfl
theorem dL_isParted_198 : decode cL_isParted 198 = .ok (.iconst 1, 1) := sl_row ag_isParted_3 gl_isParted_3 (i := 3) (r := (6, .iconst 1, 1)) rfl
theorem dL_isParted_199 : decode cL_isParted 199 = .ok (.goto 4, 3) := sl_row ag_isParted_3 gl_isParted_3 (i := 4) (r := (7, .goto 4, 3)) rfl
theorem dL_isParted_202 : decode cL_isParted 202 = .ok (.iconst 0, 1) := sl_row ag_isParted_3 gl_isParted_3 (i := 5) (r := (10, .iconst 0, 1)) rfl
theorem dL_isParted_203 : decode cL_isParted 203 = .ok (.ireturn, 1) := sl_row ag_isParted_3 gl_isParted_3 (i := 6) (r := (11, .ireturn, 1)) rfl
def ck_isSeen_0 : ByteArray := .mk #[0x03, 0x3d, 0x1c, 0x2a, 0xb4, 0x00, 0xae, 0xa2, 0x00, 0xe4, 0x03, 0x3e, 0x03, 0x36, 0x04, 0x15, 0x04, 0x2a, 0xb4, 0x00, 0xae, 0xa2, 0x00, 0xad, 0x2a, 0xb4, 0x00, 0x0a, 0x1b, 0x1c, 0x15, 0x04, 0xb6, 0x00, 0xe5, 0x2a, 0xb4, 0x00, 0x0a, 0x1b, 0x15, 0x04, 0x1c, 0xb6, 0x00, 0xe5, 0x9f, 0x00, 0x05, 0x03, 0xac, 0x1d, 0x15, 0x04, 0x1c, 0x9f, 0x00, 0x15, 0x2a, 0xb4, 0x00, 0x0a, 0x1b, 0x1c, 0x15, 0x04, 0xb6, 0x00]
set_option maxRecDepth 20000 in
theorem ag_isSeen_0 : ∀ q, agB cL_isSeen ck_isSeen_0 (0 + q) q := agB_of 0 (by decide +kernel)
def tl_isSeen_0 : List (Nat × Instr × Nat) := [(0, .iconst 0, 1), (1, .istore_n 2, 1), (2, .iload_n 2, 1), (3, .aload_n 0, 1), (4, .getfield 174, 3), (7, .if_icmp .ge 228, 3), (10, .iconst 0, 1), (11, .istore_n 3, 1), (12, .iconst 0, 1), (13, .istore 4, 2), (15, .iload 4, 2), (17, .aload_n 0, 1), (18, .getfield 174, 3), (21, .if_icmp .ge 173, 3), (24, .aload_n 0, 1), (25, .getfield 10, 3), (28, .iload_n 1, 1), (29, .iload_n 2, 1), (30, .iload 4, 2), (32, .invokevirtual 229, 3), (35, .aload_n 0, 1), (36, .getfield 10, 3), (39, .iload_n 1, 1), (40, .iload 4, 2), (42, .iload_n 2, 1), (43, .invokevirtual 229, 3), (46, .if_icmp .eq 5, 3), (49, .iconst 0, 1), (50, .ireturn, 1), (51, .iload_n 3, 1), (52, .iload 4, 2), (54, .iload_n 2, 1), (55, .if_icmp .eq 21, 3), (58, .aload_n 0, 1), (59, .getfield 10, 3), (62, .iload_n 1, 1), (63, .iload_n 2, 1)]
theorem gl_isSeen_0 : tl_isSeen_0.all (fun r => opB ck_isSeen_0 r.1 && decide (decode ck_isSeen_0 r.1 = .ok (r.2.1, r.2.2))) = true := by decide +kernel
theorem dL_isSeen_0 : decode cL_isSeen 0 = .ok (.iconst 0, 1) := sl_row ag_isSeen_0 gl_isSeen_0 (i := 0) (r := (0, .iconst 0, 1)) rfl
theorem dL_isSeen_1 : decode cL_isSeen 1 = .ok (.istore_n 2, 1) := sl_row ag_isSeen_0 gl_isSeen_0 (i := 1) (r := (1, .istore_n 2, 1)) rfl
theorem dL_isSeen_2 : decode cL_isSeen 2 = .ok (.iload_n 2, 1) := sl_row ag_isSeen_0 gl_isSeen_0 (i := 2) (r := (2, .iload_n 2, 1)) rfl
theorem dL_isSeen_3 : decode cL_isSeen 3 = .ok (.aload_n 0, 1) := sl_row ag_isSeen_0 gl_isSeen_0 (i := 3) (r := (3, .aload_n 0, 1)) rfl
theorem dL_isSeen_4 : decode cL_isSeen 4 = .ok (.getfield 174, 3) := sl_row ag_isSeen_0 gl_isSeen_0 (i := 4) (r := (4, .getfield 174, 3)) rfl
theorem dL_isSeen_7 : decode cL_isSeen 7 = .ok (.if_icmp .ge 228, 3) := sl_row ag_isSeen_0 gl_isSeen_0 (i := 5) (r := (7, .if_icmp .ge 228, 3)) rfl
theorem dL_isSeen_10 : decode cL_isSeen 10 = .ok (.iconst 0, 1) := sl_row ag_isSeen_0 gl_isSeen_0 (i := 6) (r := (10, .iconst 0, 1)) rfl
theorem dL_isSeen_11 : decode cL_isSeen 11 = .ok (.istore_n 3, 1) := sl_row ag_isSeen_0 gl_isSeen_0 (i := 7) (r := (11, .istore_n 3, 1)) rfl
theorem dL_isSeen_12 : decode cL_isSeen 12 = .ok (.iconst 0, 1) := sl_row ag_isSeen_0 gl_isSeen_0 (i := 8) (r := (12, .iconst 0, 1)) rfl
theorem dL_isSeen_13 : decode cL_isSeen 13 = .ok (.istore 4, 2) := sl_row ag_isSeen_0 gl_isSeen_0 (i := 9) (r := (13, .istore 4, 2)) rfl
theorem dL_isSeen_15 : decode cL_isSeen 15 = .ok (.iload 4, 2) := sl_row ag_isSeen_0 gl_isSeen_0 (i := 10) (r := (15, .iload 4, 2)) rfl
theorem dL_isSeen_17 : decode cL_isSeen 17 = .ok (.aload_n 0, 1) := sl_row ag_isSeen_0 gl_isSeen_0 (i := 11) (r := (17, .aload_n 0, 1)) rfl
theorem dL_isSeen_18 : decode cL_isSeen 18 = .ok (.getfield 174, 3) := sl_row ag_isSeen_0 gl_isSeen_0 (i := 12) (r := (18, .getfield 174, 3)) rfl
theorem dL_isSeen_21 : decode cL_isSeen 21 = .ok (.if_icmp .ge 173, 3) := sl_row ag_isSeen_0 gl_isSeen_0 (i := 13) (r := (21, .if_icmp .ge 173, 3)) rfl
theorem dL_isSeen_24 : decode cL_isSeen 24 = .ok (.aload_n 0, 1) := sl_row ag_isSeen_0 gl_isSeen_0 (i := 14) (r := (24, .aload_n 0, 1)) rfl
theorem dL_isSeen_25 : decode cL_isSeen 25 = .ok (.getfield 10, 3) := sl_row ag_isSeen_0 gl_isSeen_0 (i := 15) (r := (25, .getfield 10, 3)) rfl
theorem dL_isSeen_28 : decode cL_isSeen 28 = .ok (.iload_n 1, 1) := sl_row ag_isSeen_0 gl_isSeen_0 (i := 16) (r := (28, .iload_n 1, 1)) rfl
theorem dL_isSeen_29 : decode cL_isSeen 29 = .ok (.iload_n 2, 1) := sl_row ag_isSeen_0 gl_isSeen_0 (i := 17) (r := (29, .iload_n 2, 1)) rfl
theorem dL_isSeen_30 : decode cL_isSeen 30 = .ok (.iload 4, 2) := sl_row ag_isSeen_0 gl_isSeen_0 (i := 18) (r := (30, .iload 4, 2)) rfl
theorem dL_isSeen_32 : decode cL_isSeen 32 = .ok (.invokevirtual 229, 3) := sl_row ag_isSeen_0 gl_isSeen_0 (i := 19) (r := (32, .invokevirtual 229, 3)) rfl
theorem dL_isSeen_35 : decode cL_isSeen 35 = .ok (.aload_n 0, 1) := sl_row ag_isSeen_0 gl_isSeen_0 (i := 20) (r := (35, .aload_n 0, 1)) rfl
theorem dL_isSeen_36 : decode cL_isSeen 36 = .ok (.getfield 10, 3) := sl_row ag_isSeen_0 gl_isSeen_0 (i := 21) (r := (36, .getfield 10, 3)) rfl
theorem dL_isSeen_39 : decode cL_isSeen 39 = .ok (.iload_n 1, 1) := sl_row ag_isSeen_0 gl_isSeen_0 (i := 22) (r := (39, .iload_n 1, 1)) rfl
theorem dL_isSeen_40 : decode cL_isSeen 40 = .ok (.iload 4, 2) := sl_row ag_isSeen_0 gl_isSeen_0 (i := 23) (r := (40, .iload 4, 2)) rfl
theorem dL_isSeen_42 : decode cL_isSeen 42 = .ok (.iload_n 2, 1) := sl_row ag_isSeen_0 gl_isSeen_0 (i := 24) (r := (42, .iload_n 2, 1)) rfl
theorem dL_isSeen_43 : decode cL_isSeen 43 = .ok (.invokevirtual 229, 3) := sl_row ag_isSeen_0 gl_isSeen_0 (i := 25) (r := (43, .invokevirtual 229, 3)) rfl
theorem dL_isSeen_46 : decode cL_isSeen 46 = .ok (.if_icmp .eq 5, 3) := sl_row ag_isSeen_0 gl_isSeen_0 (i := 26) (r := (46, .if_icmp .eq 5, 3)) rfl
theorem dL_isSeen_49 : decode cL_isSeen 49 = .ok (.iconst 0, 1) := sl_row ag_isSeen_0 gl_isSeen_0 (i := 27) (r := (49, .iconst 0, 1)) rfl
theorem dL_isSeen_50 : decode cL_isSeen 50 = .ok (.ireturn, 1) := sl_row ag_isSeen_0 gl_isSeen_0 (i := 28) (r := (50, .ireturn, 1)) rfl
theorem dL_isSeen_51 : decode cL_isSeen 51 = .ok (.iload_n 3, 1) := sl_row ag_isSeen_0 gl_isSeen_0 (i := 29) (r := (51, .iload_n 3, 1)) rfl
theorem dL_isSeen_52 : decode cL_isSeen 52 = .ok (.iload 4, 2) := sl_row ag_isSeen_0 gl_isSeen_0 (i := 30) (r := (52, .iload 4, 2)) rfl
theorem dL_isSeen_54 : decode cL_isSeen 54 = .ok (.iload_n 2, 1) := sl_row ag_isSeen_0 gl_isSeen_0 (i := 31) (r := (54, .iload_n 2, 1)) rfl
theorem dL_isSeen_55 : decode cL_isSeen 55 = .ok (.if_icmp .eq 21, 3) := sl_row ag_isSeen_0 gl_isSeen_0 (i := 32) (r := (55, .if_icmp .eq 21, 3)) rfl
theorem dL_isSeen_58 : decode cL_isSeen 58 = .ok (.aload_n 0, 1) := sl_row ag_isSeen_0 gl_isSeen_0 (i := 33) (r := (58, .aload_n 0, 1)) rfl
theorem dL_isSeen_59 : decode cL_isSeen 59 = .ok (.getfield 10, 3) := sl_row ag_isSeen_0 gl_isSeen_0 (i := 34) (r := (59, .getfield 10, 3)) rfl
theorem dL_isSeen_62 : decode cL_isSeen 62 = .ok (.iload_n 1, 1) := sl_row ag_isSeen_0 gl_isSeen_0 (i := 35) (r := (62, .iload_n 1, 1)) rfl
theorem dL_isSeen_63 : decode cL_isSeen 63 = .ok (.iload_n 2, 1) := sl_row ag_isSeen_0 gl_isSeen_0 (i := 36) (r := (63, .iload_n 2, 1)) rfl
def ck_isSeen_1 : ByteArray := .mk #[0x15, 0x04, 0xb6, 0x00, 0xe5, 0x99, 0x00, 0x07, 0x04, 0xa7, 0x00, 0x04, 0x03, 0x60, 0x3e, 0x2a, 0xb4, 0x00, 0x1a, 0x1c, 0x2e, 0x2a, 0xb4, 0x00, 0x1a, 0x15, 0x04, 0x2e, 0x60, 0x05, 0x70, 0x9a, 0x00, 0x1a, 0x2a, 0xb4, 0x00, 0x1d, 0x1c, 0x2e, 0x2a, 0xb4, 0x00, 0x1d, 0x15, 0x04, 0x2e, 0x60, 0x05, 0x70, 0x9a, 0x00, 0x07, 0x04, 0xa7, 0x00, 0x04, 0x03, 0x36, 0x05, 0x15, 0x05, 0x99, 0x00, 0x3e, 0x2a, 0xb4, 0x00]
set_option maxRecDepth 20000 in
theorem ag_isSeen_1 : ∀ q, agB cL_isSeen ck_isSeen_1 (64 + q) q := agB_of 64 (by decide +kernel)
def tl_isSeen_1 : List (Nat × Instr × Nat) := [(0, .iload 4, 2), (2, .invokevirtual 229, 3), (5, .ifCond .eq 7, 3), (8, .iconst 1, 1), (9, .goto 4, 3), (12, .iconst 0, 1), (13, .iadd, 1), (14, .istore_n 3, 1), (15, .aload_n 0, 1), (16, .getfield 26, 3), (19, .iload_n 2, 1), (20, .iaload, 1), (21, .aload_n 0, 1), (22, .getfield 26, 3), (25, .iload 4, 2), (27, .iaload, 1), (28, .iadd, 1), (29, .iconst 2, 1), (30, .irem, 1), (31, .ifCond .ne 26, 3), (34, .aload_n 0, 1), (35, .getfield 29, 3), (38, .iload_n 2, 1), (39, .iaload, 1), (40, .aload_n 0, 1), (41, .getfield 29, 3), (44, .iload 4, 2), (46, .iaload, 1), (47, .iadd, 1), (48, .iconst 2, 1), (49, .irem, 1), (50, .ifCond .ne 7, 3), (53, .iconst 1, 1), (54, .goto 4, 3), (57, .iconst 0, 1), (58, .istore 5, 2), (60, .iload 5, 2), (62, .ifCond .eq 62, 3)]
theorem gl_isSeen_1 : tl_isSeen_1.all (fun r => opB ck_isSeen_1 r.1 && decide (decode ck_isSeen_1 r.1 = .ok (r.2.1, r.2.2))) = true := by decide +kernel
theorem dL_isSeen_64 : decode cL_isSeen 64 = .ok (.iload 4, 2) := sl_row ag_isSeen_1 gl_isSeen_1 (i := 0) (r := (0, .iload 4, 2)) rfl
theorem dL_isSeen_66 : decode cL_isSeen 66 = .ok (.invokevirtual 229, 3) := sl_row ag_isSeen_1 gl_isSeen_1 (i := 1) (r := (2, .invokevirtual 229, 3)) rfl
theorem dL_isSeen_69 : decode cL_isSeen 69 = .ok (.ifCond .eq 7, 3) := sl_row ag_isSeen_1 gl_isSeen_1 (i := 2) (r := (5, .ifCond .eq 7, 3)) rfl
theorem dL_isSeen_72 : decode cL_isSeen 72 = .ok (.iconst 1, 1) := sl_row ag_isSeen_1 gl_isSeen_1 (i := 3) (r := (8, .iconst 1, 1)) rfl
theorem dL_isSeen_73 : decode cL_isSeen 73 = .ok (.goto 4, 3) := sl_row ag_isSeen_1 gl_isSeen_1 (i := 4) (r := (9, .goto 4, 3)) rfl
theorem dL_isSeen_76 : decode cL_isSeen 76 = .ok (.iconst 0, 1) := sl_row ag_isSeen_1 gl_isSeen_1 (i := 5) (r := (12, .iconst 0, 1)) rfl
theorem dL_isSeen_77 : decode cL_isSeen 77 = .ok (.iadd, 1) := sl_row ag_isSeen_1 gl_isSeen_1 (i := 6) (r := (13, .iadd, 1)) rfl
theorem dL_isSeen_78 : decode cL_isSeen 78 = .ok (.istore_n 3, 1) := sl_row ag_isSeen_1 gl_isSeen_1 (i := 7) (r := (14, .istore_n 3, 1)) rfl
theorem dL_isSeen_79 : decode cL_isSeen 79 = .ok (.aload_n 0, 1) := sl_row ag_isSeen_1 gl_isSeen_1 (i := 8) (r := (15, .aload_n 0, 1)) rfl
theorem dL_isSeen_80 : decode cL_isSeen 80 = .ok (.getfield 26, 3) := sl_row ag_isSeen_1 gl_isSeen_1 (i := 9) (r := (16, .getfield 26, 3)) rfl
theorem dL_isSeen_83 : decode cL_isSeen 83 = .ok (.iload_n 2, 1) := sl_row ag_isSeen_1 gl_isSeen_1 (i := 10) (r := (19, .iload_n 2, 1)) rfl
theorem dL_isSeen_84 : decode cL_isSeen 84 = .ok (.iaload, 1) := sl_row ag_isSeen_1 gl_isSeen_1 (i := 11) (r := (20, .iaload, 1)) rfl
theorem dL_isSeen_85 : decode cL_isSeen 85 = .ok (.aload_n 0, 1) := sl_row ag_isSeen_1 gl_isSeen_1 (i := 12) (r := (21, .aload_n 0, 1)) rfl
theorem dL_isSeen_86 : decode cL_isSeen 86 = .ok (.getfield 26, 3) := sl_row ag_isSeen_1 gl_isSeen_1 (i := 13) (r := (22, .getfield 26, 3)) rfl
theorem dL_isSeen_89 : decode cL_isSeen 89 = .ok (.iload 4, 2) := sl_row ag_isSeen_1 gl_isSeen_1 (i := 14) (r := (25, .iload 4, 2)) rfl
theorem dL_isSeen_91 : decode cL_isSeen 91 = .ok (.iaload, 1) := sl_row ag_isSeen_1 gl_isSeen_1 (i := 15) (r := (27, .iaload, 1)) rfl
theorem dL_isSeen_92 : decode cL_isSeen 92 = .ok (.iadd, 1) := sl_row ag_isSeen_1 gl_isSeen_1 (i := 16) (r := (28, .iadd, 1)) rfl
theorem dL_isSeen_93 : decode cL_isSeen 93 = .ok (.iconst 2, 1) := sl_row ag_isSeen_1 gl_isSeen_1 (i := 17) (r := (29, .iconst 2, 1)) rfl
theorem dL_isSeen_94 : decode cL_isSeen 94 = .ok (.irem, 1) := sl_row ag_isSeen_1 gl_isSeen_1 (i := 18) (r := (30, .irem, 1)) rfl
theorem dL_isSeen_95 : decode cL_isSeen 95 = .ok (.ifCond .ne 26, 3) := sl_row ag_isSeen_1 gl_isSeen_1 (i := 19) (r := (31, .ifCond .ne 26, 3)) rfl
theorem dL_isSeen_98 : decode cL_isSeen 98 = .ok (.aload_n 0, 1) := sl_row ag_isSeen_1 gl_isSeen_1 (i := 20) (r := (34, .aload_n 0, 1)) rfl
theorem dL_isSeen_99 : decode cL_isSeen 99 = .ok (.getfield 29, 3) := sl_row ag_isSeen_1 gl_isSeen_1 (i := 21) (r := (35, .getfield 29, 3)) rfl
theorem dL_isSeen_102 : decode cL_isSeen 102 = .ok (.iload_n 2, 1) := sl_row ag_isSeen_1 gl_isSeen_1 (i := 22) (r := (38, .iload_n 2, 1)) rfl
theorem dL_isSeen_103 : decode cL_isSeen 103 = .ok (.iaload, 1) := sl_row ag_isSeen_1 gl_isSeen_1 (i := 23) (r := (39, .iaload, 1)) rfl
theorem dL_isSeen_104 : decode cL_isSeen 104 = .ok (.aload_n 0, 1) := sl_row ag_isSeen_1 gl_isSeen_1 (i := 24) (r := (40, .aload_n 0, 1)) rfl
theorem dL_isSeen_105 : decode cL_isSeen 105 = .ok (.getfield 29, 3) := sl_row ag_isSeen_1 gl_isSeen_1 (i := 25) (r := (41, .getfield 29, 3)) rfl
theorem dL_isSeen_108 : decode cL_isSeen 108 = .ok (.iload 4, 2) := sl_row ag_isSeen_1 gl_isSeen_1 (i := 26) (r := (44, .iload 4, 2)) rfl
theorem dL_isSeen_110 : decode cL_isSeen 110 = .ok (.iaload, 1) := sl_row ag_isSeen_1 gl_isSeen_1 (i := 27) (r := (46, .iaload, 1)) rfl
theorem dL_isSeen_111 : decode cL_isSeen 111 = .ok (.iadd, 1) := sl_row ag_isSeen_1 gl_isSeen_1 (i := 28) (r := (47, .iadd, 1)) rfl
theorem dL_isSeen_112 : decode cL_isSeen 112 = .ok (.iconst 2, 1) := sl_row ag_isSeen_1 gl_isSeen_1 (i := 29) (r := (48, .iconst 2, 1)) rfl
theorem dL_isSeen_113 : decode cL_isSeen 113 = .ok (.irem, 1) := sl_row ag_isSeen_1 gl_isSeen_1 (i := 30) (r := (49, .irem, 1)) rfl
theorem dL_isSeen_114 : decode cL_isSeen 114 = .ok (.ifCond .ne 7, 3) := sl_row ag_isSeen_1 gl_isSeen_1 (i := 31) (r := (50, .ifCond .ne 7, 3)) rfl
theorem dL_isSeen_117 : decode cL_isSeen 117 = .ok (.iconst 1, 1) := sl_row ag_isSeen_1 gl_isSeen_1 (i := 32) (r := (53, .iconst 1, 1)) rfl
theorem dL_isSeen_118 : decode cL_isSeen 118 = .ok (.goto 4, 3) := sl_row ag_isSeen_1 gl_isSeen_1 (i := 33) (r := (54, .goto 4, 3)) rfl
theorem dL_isSeen_121 : decode cL_isSeen 121 = .ok (.iconst 0, 1) := sl_row ag_isSeen_1 gl_isSeen_1 (i := 34) (r := (57, .iconst 0, 1)) rfl
theorem dL_isSeen_122 : decode cL_isSeen 122 = .ok (.istore 5, 2) := sl_row ag_isSeen_1 gl_isSeen_1 (i := 35) (r := (58, .istore 5, 2)) rfl
theorem dL_isSeen_124 : decode cL_isSeen 124 = .ok (.iload 5, 2) := sl_row ag_isSeen_1 gl_isSeen_1 (i := 36) (r := (60, .iload 5, 2)) rfl
theorem dL_isSeen_126 : decode cL_isSeen 126 = .ok (.ifCond .eq 62, 3) := sl_row ag_isSeen_1 gl_isSeen_1 (i := 37) (r := (62, .ifCond .eq 62, 3)) rfl
def ck_isSeen_2 : ByteArray := .mk #[0x3e, 0x2a, 0xb4, 0x00, 0x0a, 0x1b, 0x1c, 0x15, 0x04, 0xb6, 0x00, 0xe5, 0x99, 0x00, 0x30, 0x2a, 0xb4, 0x00, 0x0a, 0x1b, 0x2a, 0xb4, 0x00, 0x1a, 0x1c, 0x2e, 0x2a, 0xb4, 0x00, 0x1a, 0x15, 0x04, 0x2e, 0x60, 0x05, 0x6c, 0x2a, 0xb4, 0x00, 0x1d, 0x1c, 0x2e, 0x2a, 0xb4, 0x00, 0x1d, 0x15, 0x04, 0x2e, 0x60, 0x05, 0x6c, 0xb6, 0x00, 0xc9, 0x9c, 0x00, 0x05, 0x03, 0xac, 0x84, 0x04, 0x01, 0xa7, 0xff, 0x50, 0x2a, 0xb4]
set_option maxRecDepth 20000 in
theorem ag_isSeen_2 : ∀ q, agB cL_isSeen ck_isSeen_2 (128 + q) q := agB_of 128 (by decide +kernel)
def tl_isSeen_2 : List (Nat × Instr × Nat) := [(1, .aload_n 0, 1), (2, .getfield 10, 3), (5, .iload_n 1, 1), (6, .iload_n 2, 1), (7, .iload 4, 2), (9, .invokevirtual 229, 3), (12, .ifCond .eq 48, 3), (15, .aload_n 0, 1), (16, .getfield 10, 3), (19, .iload_n 1, 1), (20, .aload_n 0, 1), (21, .getfield 26, 3), (24, .iload_n 2, 1), (25, .iaload, 1), (26, .aload_n 0, 1), (27, .getfield 26, 3), (30, .iload 4, 2), (32, .iaload, 1), (33, .iadd, 1), (34, .iconst 2, 1), (35, .idiv, 1), (36, .aload_n 0, 1), (37, .getfield 29, 3), (40, .iload_n 2, 1), (41, .iaload, 1), (42, .aload_n 0, 1), (43, .getfield 29, 3), (46, .iload 4, 2), (48, .iaload, 1), (49, .iadd, 1), (50, .iconst 2, 1), (51, .idiv, 1), (52, .invokevirtual 201, 3), (55, .ifCond .ge 5, 3), (58, .iconst 0, 1), (59, .ireturn, 1), (60, .iinc 4 1, 3), (63, .goto (-176), 3)]
theorem gl_isSeen_2 : tl_isSeen_2.all (fun r => opB ck_isSeen_2 r.1 && decide (decode ck_isSeen_2 r.1 = .ok (r.2.1, r.2.2))) = true := by decide +kernel
theorem dL_isSeen_129 : decode cL_isSeen 129 = .ok (.aload_n 0, 1) := sl_row ag_isSeen_2 gl_isSeen_2 (i := 0) (r := (1, .aload_n 0, 1)) rfl
theorem dL_isSeen_130 : decode cL_isSeen 130 = .ok (.getfield 10, 3) := sl_row ag_isSeen_2 gl_isSeen_2 (i := 1) (r := (2, .getfield 10, 3)) rfl
theorem dL_isSeen_133 : decode cL_isSeen 133 = .ok (.iload_n 1, 1) := sl_row ag_isSeen_2 gl_isSeen_2 (i := 2) (r := (5, .iload_n 1, 1)) rfl
theorem dL_isSeen_134 : decode cL_isSeen 134 = .ok (.iload_n 2, 1) := sl_row ag_isSeen_2 gl_isSeen_2 (i := 3) (r := (6, .iload_n 2, 1)) rfl
theorem dL_isSeen_135 : decode cL_isSeen 135 = .ok (.iload 4, 2) := sl_row ag_isSeen_2 gl_isSeen_2 (i := 4) (r := (7, .iload 4, 2)) rfl
theorem dL_isSeen_137 : decode cL_isSeen 137 = .ok (.invokevirtual 229, 3) := sl_row ag_isSeen_2 gl_isSeen_2 (i := 5) (r := (9, .invokevirtual 229, 3)) rfl
theorem dL_isSeen_140 : decode cL_isSeen 140 = .ok (.ifCond .eq 48, 3) := sl_row ag_isSeen_2 gl_isSeen_2 (i := 6) (r := (12, .ifCond .eq 48, 3)) rfl
theorem dL_isSeen_143 : decode cL_isSeen 143 = .ok (.aload_n 0, 1) := sl_row ag_isSeen_2 gl_isSeen_2 (i := 7) (r := (15, .aload_n 0, 1)) rfl
theorem dL_isSeen_144 : decode cL_isSeen 144 = .ok (.getfield 10, 3) := sl_row ag_isSeen_2 gl_isSeen_2 (i := 8) (r := (16, .getfield 10, 3)) rfl
theorem dL_isSeen_147 : decode cL_isSeen 147 = .ok (.iload_n 1, 1) := sl_row ag_isSeen_2 gl_isSeen_2 (i := 9) (r := (19, .iload_n 1, 1)) rfl
theorem dL_isSeen_148 : decode cL_isSeen 148 = .ok (.aload_n 0, 1) := sl_row ag_isSeen_2 gl_isSeen_2 (i := 10) (r := (20, .aload_n 0, 1)) rfl
theorem dL_isSeen_149 : decode cL_isSeen 149 = .ok (.getfield 26, 3) := sl_row ag_isSeen_2 gl_isSeen_2 (i := 11) (r := (21, .getfield 26, 3)) rfl
theorem dL_isSeen_152 : decode cL_isSeen 152 = .ok (.iload_n 2, 1) := sl_row ag_isSeen_2 gl_isSeen_2 (i := 12) (r := (24, .iload_n 2, 1)) rfl
theorem dL_isSeen_153 : decode cL_isSeen 153 = .ok (.iaload, 1) := sl_row ag_isSeen_2 gl_isSeen_2 (i := 13) (r := (25, .iaload, 1)) rfl
theorem dL_isSeen_154 : decode cL_isSeen 154 = .ok (.aload_n 0, 1) := sl_row ag_isSeen_2 gl_isSeen_2 (i := 14) (r := (26, .aload_n 0, 1)) rfl
theorem dL_isSeen_155 : decode cL_isSeen 155 = .ok (.getfield 26, 3) := sl_row ag_isSeen_2 gl_isSeen_2 (i := 15) (r := (27, .getfield 26, 3)) rfl
theorem dL_isSeen_158 : decode cL_isSeen 158 = .ok (.iload 4, 2) := sl_row ag_isSeen_2 gl_isSeen_2 (i := 16) (r := (30, .iload 4, 2)) rfl
theorem dL_isSeen_160 : decode cL_isSeen 160 = .ok (.iaload, 1) := sl_row ag_isSeen_2 gl_isSeen_2 (i := 17) (r := (32, .iaload, 1)) rfl
theorem dL_isSeen_161 : decode cL_isSeen 161 = .ok (.iadd, 1) := sl_row ag_isSeen_2 gl_isSeen_2 (i := 18) (r := (33, .iadd, 1)) rfl
theorem dL_isSeen_162 : decode cL_isSeen 162 = .ok (.iconst 2, 1) := sl_row ag_isSeen_2 gl_isSeen_2 (i := 19) (r := (34, .iconst 2, 1)) rfl
theorem dL_isSeen_163 : decode cL_isSeen 163 = .ok (.idiv, 1) := sl_row ag_isSeen_2 gl_isSeen_2 (i := 20) (r := (35, .idiv, 1)) rfl
theorem dL_isSeen_164 : decode cL_isSeen 164 = .ok (.aload_n 0, 1) := sl_row ag_isSeen_2 gl_isSeen_2 (i := 21) (r := (36, .aload_n 0, 1)) rfl
theorem dL_isSeen_165 : decode cL_isSeen 165 = .ok (.getfield 29, 3) := sl_row ag_isSeen_2 gl_isSeen_2 (i := 22) (r := (37, .getfield 29, 3)) rfl
theorem dL_isSeen_168 : decode cL_isSeen 168 = .ok (.iload_n 2, 1) := sl_row ag_isSeen_2 gl_isSeen_2 (i := 23) (r := (40, .iload_n 2, 1)) rfl
theorem dL_isSeen_169 : decode cL_isSeen 169 = .ok (.iaload, 1) := sl_row ag_isSeen_2 gl_isSeen_2 (i := 24) (r := (41, .iaload, 1)) rfl
theorem dL_isSeen_170 : decode cL_isSeen 170 = .ok (.aload_n 0, 1) := sl_row ag_isSeen_2 gl_isSeen_2 (i := 25) (r := (42, .aload_n 0, 1)) rfl
theorem dL_isSeen_171 : decode cL_isSeen 171 = .ok (.getfield 29, 3) := sl_row ag_isSeen_2 gl_isSeen_2 (i := 26) (r := (43, .getfield 29, 3)) rfl
theorem dL_isSeen_174 : decode cL_isSeen 174 = .ok (.iload 4, 2) := sl_row ag_isSeen_2 gl_isSeen_2 (i := 27) (r := (46, .iload 4, 2)) rfl
theorem dL_isSeen_176 : decode cL_isSeen 176 = .ok (.iaload, 1) := sl_row ag_isSeen_2 gl_isSeen_2 (i := 28) (r := (48, .iaload, 1)) rfl
theorem dL_isSeen_177 : decode cL_isSeen 177 = .ok (.iadd, 1) := sl_row ag_isSeen_2 gl_isSeen_2 (i := 29) (r := (49, .iadd, 1)) rfl
theorem dL_isSeen_178 : decode cL_isSeen 178 = .ok (.iconst 2, 1) := sl_row ag_isSeen_2 gl_isSeen_2 (i := 30) (r := (50, .iconst 2, 1)) rfl
theorem dL_isSeen_179 : decode cL_isSeen 179 = .ok (.idiv, 1) := sl_row ag_isSeen_2 gl_isSeen_2 (i := 31) (r := (51, .idiv, 1)) rfl
theorem dL_isSeen_180 : decode cL_isSeen 180 = .ok (.invokevirtual 201, 3) := sl_row ag_isSeen_2 gl_isSeen_2 (i := 32) (r := (52, .invokevirtual 201, 3)) rfl
theorem dL_isSeen_183 : decode cL_isSeen 183 = .ok (.ifCond .ge 5, 3) := sl_row ag_isSeen_2 gl_isSeen_2 (i := 33) (r := (55, .ifCond .ge 5, 3)) rfl
theorem dL_isSeen_186 : decode cL_isSeen 186 = .ok (.iconst 0, 1) := sl_row ag_isSeen_2 gl_isSeen_2 (i := 34) (r := (58, .iconst 0, 1)) rfl
theorem dL_isSeen_187 : decode cL_isSeen 187 = .ok (.ireturn, 1) := sl_row ag_isSeen_2 gl_isSeen_2 (i := 35) (r := (59, .ireturn, 1)) rfl
theorem dL_isSeen_188 : decode cL_isSeen 188 = .ok (.iinc 4 1, 3) := sl_row ag_isSeen_2 gl_isSeen_2 (i := 36) (r := (60, .iinc 4 1, 3)) rfl
theorem dL_isSeen_191 : decode cL_isSeen 191 = .ok (.goto (-176), 3) := sl_row ag_isSeen_2 gl_isSeen_2 (i := 37) (r := (63, .goto (-176), 3)) rfl
def ck_isSeen_3 : ByteArray := .mk #[0xff, 0x50, 0x2a, 0xb4, 0x00, 0x0a, 0x1b, 0x1c, 0xb6, 0x00, 0xe9, 0x1d, 0xa0, 0x00, 0x17, 0x2a, 0xb4, 0x00, 0x0a, 0x1b, 0x1c, 0x1c, 0x04, 0x60, 0x2a, 0xb4, 0x00, 0xae, 0x70, 0xb6, 0x00, 0xe5, 0x9a, 0x00, 0x05, 0x03, 0xac, 0x84, 0x02, 0x01, 0xa7, 0xff, 0x1a, 0x04, 0xac]
set_option maxRecDepth 20000 in
theorem ag_isSeen_3 : ∀ q, agB cL_isSeen ck_isSeen_3 (192 + q) q := agB_of 192 (by decide +kernel)
def tl_isSeen_3 : List (Nat × Instr × Nat) := [(2, .aload_n 0, 1), (3, .getfield 10, 3), (6, .iload_n 1, 1), (7, .iload_n 2, 1), (8, .invokevirtual 233, 3), (11, .iload_n 3, 1), (12, .if_icmp .ne 23, 3), (15, .aload_n 0, 1), (16, .getfield 10, 3), (19, .iload_n 1, 1), (20, .iload_n 2, 1), (21, .iload_n 2, 1), (22, .iconst 1, 1), (23, .iadd, 1), (24, .aload_n 0, 1), (25, .getfield 174, 3), (28, .irem, 1), (29, .invokevirtual 229, 3), (32, .ifCond .ne 5, 3), (35, .iconst 0, 1), (36, .ireturn, 1), (37, .iinc 2 1, 3), (40, .goto (-230), 3), (43, .iconst 1, 1), (44, .ireturn, 1)]
theorem gl_isSeen_3 : tl_isSeen_3.all (fun r => opB ck_isSeen_3 r.1 && decide (decode ck_isSeen_3 r.1 = .ok (r.2.1, r.2.2))) = true := by decide +kernel
theorem dL_isSeen_194 : decode cL_isSeen 194 = .ok (.aload_n 0, 1) := sl_row ag_isSeen_3 gl_isSeen_3 (i := 0) (r := (2, .aload_n 0, 1)) rfl
theorem dL_isSeen_195 : decode cL_isSeen 195 = .ok (.getfield 10, 3) := sl_row ag_isSeen_3 gl_isSeen_3 (i := 1) (r := (3, .getfield 10, 3)) rfl
theorem dL_isSeen_198 : decode cL_isSeen 198 = .ok (.iload_n 1, 1) := sl_row ag_isSeen_3 gl_isSeen_3 (i := 2) (r := (6, .iload_n 1, 1)) rfl
theorem dL_isSeen_199 : decode cL_isSeen 199 = .ok (.iload_n 2, 1) := sl_row ag_isSeen_3 gl_isSeen_3 (i := 3) (r := (7, .iload_n 2, 1)) rfl
theorem dL_isSeen_200 : decode cL_isSeen 200 = .ok (.invokevirtual 233, 3) := sl_row ag_isSeen_3 gl_isSeen_3 (i := 4) (r := (8, .invokevirtual 233, 3)) rfl
theorem dL_isSeen_203 : decode cL_isSeen 203 = .ok (.iload_n 3, 1) := sl_row ag_isSeen_3 gl_isSeen_3 (i := 5) (r := (11, .iload_n 3, 1)) rfl
theorem dL_isSeen_204 : decode cL_isSeen 204 = .ok (.if_icmp .ne 23, 3) := sl_row ag_isSeen_3 gl_isSeen_3 (i := 6) (r := (12, .if_icmp .ne 23, 3)) rfl
theorem dL_isSeen_207 : decode cL_isSeen 207 = .ok (.aload_n 0, 1) := sl_row ag_isSeen_3 gl_isSeen_3 (i := 7) (r := (15, .aload_n 0, 1)) rfl
theorem dL_isSeen_208 : decode cL_isSeen 208 = .ok (.getfield 10, 3) := sl_row ag_isSeen_3 gl_isSeen_3 (i := 8) (r := (16, .getfield 10, 3)) rfl
theorem dL_isSeen_211 : decode cL_isSeen 211 = .ok (.iload_n 1, 1) := sl_row ag_isSeen_3 gl_isSeen_3 (i := 9) (r := (19, .iload_n 1, 1)) rfl
theorem dL_isSeen_212 : decode cL_isSeen 212 = .ok (.iload_n 2, 1) := sl_row ag_isSeen_3 gl_isSeen_3 (i := 10) (r := (20, .iload_n 2, 1)) rfl
theorem dL_isSeen_213 : decode cL_isSeen 213 = .ok (.iload_n 2, 1) := sl_row ag_isSeen_3 gl_isSeen_3 (i := 11) (r := (21, .iload_n 2, 1)) rfl
theorem dL_isSeen_214 : decode cL_isSeen 214 = .ok (.iconst 1, 1) := sl_row ag_isSeen_3 gl_isSeen_3 (i := 12) (r := (22, .iconst 1, 1)) rfl
theorem dL_isSeen_215 : decode cL_isSeen 215 = .ok (.iadd, 1) := sl_row ag_isSeen_3 gl_isSeen_3 (i := 13) (r := (23, .iadd, 1)) rfl
theorem dL_isSeen_216 : decode cL_isSeen 216 = .ok (.aload_n 0, 1) := sl_row ag_isSeen_3 gl_isSeen_3 (i := 14) (r := (24, .aload_n 0, 1)) rfl
theorem dL_isSeen_217 : decode cL_isSeen 217 = .ok (.getfield 174, 3) := sl_row ag_isSeen_3 gl_isSeen_3 (i := 15) (r := (25, .getfield 174, 3)) rfl
theorem dL_isSeen_220 : decode cL_isSeen 220 = .ok (.irem, 1) := sl_row ag_isSeen_3 gl_isSeen_3 (i := 16) (r := (28, .irem, 1)) rfl
theorem dL_isSeen_221 : decode cL_isSeen 221 = .ok (.invokevirtual 229, 3) := sl_row ag_isSeen_3 gl_isSeen_3 (i := 17) (r := (29, .invokevirtual 229, 3)) rfl
theorem dL_isSeen_224 : decode cL_isSeen 224 = .ok (.ifCond .ne 5, 3) := sl_row ag_isSeen_3 gl_isSeen_3 (i := 18) (r := (32, .ifCond .ne 5, 3)) rfl
theorem dL_isSeen_227 : decode cL_isSeen 227 = .ok (.iconst 0, 1) := sl_row ag_isSeen_3 gl_isSeen_3 (i := 19) (r := (35, .iconst 0, 1)) rfl
theorem dL_isSeen_228 : decode cL_isSeen 228 = .ok (.ireturn, 1) := sl_row ag_isSeen_3 gl_isSeen_3 (i := 20) (r := (36, .ireturn, 1)) rfl
theorem dL_isSeen_229 : decode cL_isSeen 229 = .ok (.iinc 2 1, 3) := sl_row ag_isSeen_3 gl_isSeen_3 (i := 21) (r := (37, .iinc 2 1, 3)) rfl
theorem dL_isSeen_232 : decode cL_isSeen 232 = .ok (.goto (-230), 3) := sl_row ag_isSeen_3 gl_isSeen_3 (i := 22) (r := (40, .goto (-230), 3)) rfl
theorem dL_isSeen_235 : decode cL_isSeen 235 = .ok (.iconst 1, 1) := sl_row ag_isSeen_3 gl_isSeen_3 (i := 23) (r := (43, .iconst 1, 1)) rfl
theorem dL_isSeen_236 : decode cL_isSeen 236 = .ok (.ireturn, 1) := sl_row ag_isSeen_3 gl_isSeen_3 (i := 24) (r := (44, .ireturn, 1)) rfl
def ck_areLines_0 : ByteArray := .mk #[0x2a, 0xb4, 0x00, 0x0a, 0xb6, 0x00, 0xd5, 0x3c, 0x05, 0x2a, 0x10, 0x0a, 0xb6, 0x00, 0x36, 0x60, 0x3d, 0x04, 0x2a, 0x10, 0x06, 0xb6, 0x00, 0x36, 0x60, 0x3e, 0x03, 0x36, 0x04, 0x15, 0x04, 0x1c, 0xa2, 0x00, 0x43, 0x2a, 0xb4, 0x00, 0x0a, 0x2a, 0x05, 0x1d, 0x68, 0x04, 0x60, 0xb6, 0x00, 0x36, 0x1d, 0x64, 0x2a, 0x05, 0x1d, 0x68, 0x04, 0x60, 0xb6, 0x00, 0x36, 0x1d, 0x64, 0x2a, 0x05, 0x1d, 0x68, 0x04, 0x60, 0xb6]
set_option maxRecDepth 20000 in
theorem ag_areLines_0 : ∀ q, agB cL_areLines ck_areLines_0 (0 + q) q := agB_of 0 (by decide +kernel)
def tl_areLines_0 : List (Nat × Instr × Nat) := [(0, .aload_n 0, 1), (1, .getfield 10, 3), (4, .invokevirtual 213, 3), (7, .istore_n 1, 1), (8, .iconst 2, 1), (9, .aload_n 0, 1), (10, .bipush 10, 2), (12, .invokevirtual 54, 3), (15, .iadd, 1), (16, .istore_n 2, 1), (17, .iconst 1, 1), (18, .aload_n 0, 1), (19, .bipush 6, 2), (21, .invokevirtual 54, 3), (24, .iadd, 1), (25, .istore_n 3, 1), (26, .iconst 0, 1), (27, .istore 4, 2), (29, .iload 4, 2), (31, .iload_n 2, 1), (32, .if_icmp .ge 67, 3), (35, .aload_n 0, 1), (36, .getfield 10, 3), (39, .aload_n 0, 1), (40, .iconst 2, 1), (41, .iload_n 3, 1), (42, .imul, 1), (43, .iconst 1, 1), (44, .iadd, 1), (45, .invokevirtual 54, 3), (48, .iload_n 3, 1), (49, .isub, 1), (50, .aload_n 0, 1), (51, .iconst 2, 1), (52, .iload_n 3, 1), (53, .imul, 1), (54, .iconst 1, 1), (55, .iadd, 1), (56, .invokevirtual 54, 3), (59, .iload_n 3, 1), (60, .isub, 1), (61, .aload_n 0, 1), (62, .iconst 2, 1), (63, .iload_n 3, 1)]
theorem gl_areLines_0 : tl_areLines_0.all (fun r => opB ck_areLines_0 r.1 && decide (decode ck_areLines_0 r.1 = .ok (r.2.1, r.2.2))) = true := by decide +kernel
theorem dL_areLines_0 : decode cL_areLines 0 = .ok (.aload_n 0, 1) := sl_row ag_areLines_0 gl_areLines_0 (i := 0) (r := (0, .aload_n 0, 1)) rfl
theorem dL_areLines_1 : decode cL_areLines 1 = .ok (.getfield 10, 3) := sl_row ag_areLines_0 gl_areLines_0 (i := 1) (r := (1, .getfield 10, 3)) rfl
theorem dL_areLines_4 : decode cL_areLines 4 = .ok (.invokevirtual 213, 3) := sl_row ag_areLines_0 gl_areLines_0 (i := 2) (r := (4, .invokevirtual 213, 3)) rfl
theorem dL_areLines_7 : decode cL_areLines 7 = .ok (.istore_n 1, 1) := sl_row ag_areLines_0 gl_areLines_0 (i := 3) (r := (7, .istore_n 1, 1)) rfl
theorem dL_areLines_8 : decode cL_areLines 8 = .ok (.iconst 2, 1) := sl_row ag_areLines_0 gl_areLines_0 (i := 4) (r := (8, .iconst 2, 1)) rfl
theorem dL_areLines_9 : decode cL_areLines 9 = .ok (.aload_n 0, 1) := sl_row ag_areLines_0 gl_areLines_0 (i := 5) (r := (9, .aload_n 0, 1)) rfl
theorem dL_areLines_10 : decode cL_areLines 10 = .ok (.bipush 10, 2) := sl_row ag_areLines_0 gl_areLines_0 (i := 6) (r := (10, .bipush 10, 2)) rfl
theorem dL_areLines_12 : decode cL_areLines 12 = .ok (.invokevirtual 54, 3) := sl_row ag_areLines_0 gl_areLines_0 (i := 7) (r := (12, .invokevirtual 54, 3)) rfl
theorem dL_areLines_15 : decode cL_areLines 15 = .ok (.iadd, 1) := sl_row ag_areLines_0 gl_areLines_0 (i := 8) (r := (15, .iadd, 1)) rfl
theorem dL_areLines_16 : decode cL_areLines 16 = .ok (.istore_n 2, 1) := sl_row ag_areLines_0 gl_areLines_0 (i := 9) (r := (16, .istore_n 2, 1)) rfl
theorem dL_areLines_17 : decode cL_areLines 17 = .ok (.iconst 1, 1) := sl_row ag_areLines_0 gl_areLines_0 (i := 10) (r := (17, .iconst 1, 1)) rfl
theorem dL_areLines_18 : decode cL_areLines 18 = .ok (.aload_n 0, 1) := sl_row ag_areLines_0 gl_areLines_0 (i := 11) (r := (18, .aload_n 0, 1)) rfl
theorem dL_areLines_19 : decode cL_areLines 19 = .ok (.bipush 6, 2) := sl_row ag_areLines_0 gl_areLines_0 (i := 12) (r := (19, .bipush 6, 2)) rfl
theorem dL_areLines_21 : decode cL_areLines 21 = .ok (.invokevirtual 54, 3) := sl_row ag_areLines_0 gl_areLines_0 (i := 13) (r := (21, .invokevirtual 54, 3)) rfl
theorem dL_areLines_24 : decode cL_areLines 24 = .ok (.iadd, 1) := sl_row ag_areLines_0 gl_areLines_0 (i := 14) (r := (24, .iadd, 1)) rfl
theorem dL_areLines_25 : decode cL_areLines 25 = .ok (.istore_n 3, 1) := sl_row ag_areLines_0 gl_areLines_0 (i := 15) (r := (25, .istore_n 3, 1)) rfl
theorem dL_areLines_26 : decode cL_areLines 26 = .ok (.iconst 0, 1) := sl_row ag_areLines_0 gl_areLines_0 (i := 16) (r := (26, .iconst 0, 1)) rfl
theorem dL_areLines_27 : decode cL_areLines 27 = .ok (.istore 4, 2) := sl_row ag_areLines_0 gl_areLines_0 (i := 17) (r := (27, .istore 4, 2)) rfl
theorem dL_areLines_29 : decode cL_areLines 29 = .ok (.iload 4, 2) := sl_row ag_areLines_0 gl_areLines_0 (i := 18) (r := (29, .iload 4, 2)) rfl
theorem dL_areLines_31 : decode cL_areLines 31 = .ok (.iload_n 2, 1) := sl_row ag_areLines_0 gl_areLines_0 (i := 19) (r := (31, .iload_n 2, 1)) rfl
theorem dL_areLines_32 : decode cL_areLines 32 = .ok (.if_icmp .ge 67, 3) := sl_row ag_areLines_0 gl_areLines_0 (i := 20) (r := (32, .if_icmp .ge 67, 3)) rfl
theorem dL_areLines_35 : decode cL_areLines 35 = .ok (.aload_n 0, 1) := sl_row ag_areLines_0 gl_areLines_0 (i := 21) (r := (35, .aload_n 0, 1)) rfl
theorem dL_areLines_36 : decode cL_areLines 36 = .ok (.getfield 10, 3) := sl_row ag_areLines_0 gl_areLines_0 (i := 22) (r := (36, .getfield 10, 3)) rfl
theorem dL_areLines_39 : decode cL_areLines 39 = .ok (.aload_n 0, 1) := sl_row ag_areLines_0 gl_areLines_0 (i := 23) (r := (39, .aload_n 0, 1)) rfl
theorem dL_areLines_40 : decode cL_areLines 40 = .ok (.iconst 2, 1) := sl_row ag_areLines_0 gl_areLines_0 (i := 24) (r := (40, .iconst 2, 1)) rfl
theorem dL_areLines_41 : decode cL_areLines 41 = .ok (.iload_n 3, 1) := sl_row ag_areLines_0 gl_areLines_0 (i := 25) (r := (41, .iload_n 3, 1)) rfl
theorem dL_areLines_42 : decode cL_areLines 42 = .ok (.imul, 1) := sl_row ag_areLines_0 gl_areLines_0 (i := 26) (r := (42, .imul, 1)) rfl
theorem dL_areLines_43 : decode cL_areLines 43 = .ok (.iconst 1, 1) := sl_row ag_areLines_0 gl_areLines_0 (i := 27) (r := (43, .iconst 1, 1)) rfl
theorem dL_areLines_44 : decode cL_areLines 44 = .ok (.iadd, 1) := sl_row ag_areLines_0 gl_areLines_0 (i := 28) (r := (44, .iadd, 1)) rfl
theorem dL_areLines_45 : decode cL_areLines 45 = .ok (.invokevirtual 54, 3) := sl_row ag_areLines_0 gl_areLines_0 (i := 29) (r := (45, .invokevirtual 54, 3)) rfl
theorem dL_areLines_48 : decode cL_areLines 48 = .ok (.iload_n 3, 1) := sl_row ag_areLines_0 gl_areLines_0 (i := 30) (r := (48, .iload_n 3, 1)) rfl
theorem dL_areLines_49 : decode cL_areLines 49 = .ok (.isub, 1) := sl_row ag_areLines_0 gl_areLines_0 (i := 31) (r := (49, .isub, 1)) rfl
theorem dL_areLines_50 : decode cL_areLines 50 = .ok (.aload_n 0, 1) := sl_row ag_areLines_0 gl_areLines_0 (i := 32) (r := (50, .aload_n 0, 1)) rfl
theorem dL_areLines_51 : decode cL_areLines 51 = .ok (.iconst 2, 1) := sl_row ag_areLines_0 gl_areLines_0 (i := 33) (r := (51, .iconst 2, 1)) rfl
theorem dL_areLines_52 : decode cL_areLines 52 = .ok (.iload_n 3, 1) := sl_row ag_areLines_0 gl_areLines_0 (i := 34) (r := (52, .iload_n 3, 1)) rfl
theorem dL_areLines_53 : decode cL_areLines 53 = .ok (.imul, 1) := sl_row ag_areLines_0 gl_areLines_0 (i := 35) (r := (53, .imul, 1)) rfl
theorem dL_areLines_54 : decode cL_areLines 54 = .ok (.iconst 1, 1) := sl_row ag_areLines_0 gl_areLines_0 (i := 36) (r := (54, .iconst 1, 1)) rfl
theorem dL_areLines_55 : decode cL_areLines 55 = .ok (.iadd, 1) := sl_row ag_areLines_0 gl_areLines_0 (i := 37) (r := (55, .iadd, 1)) rfl
theorem dL_areLines_56 : decode cL_areLines 56 = .ok (.invokevirtual 54, 3) := sl_row ag_areLines_0 gl_areLines_0 (i := 38) (r := (56, .invokevirtual 54, 3)) rfl
theorem dL_areLines_59 : decode cL_areLines 59 = .ok (.iload_n 3, 1) := sl_row ag_areLines_0 gl_areLines_0 (i := 39) (r := (59, .iload_n 3, 1)) rfl
theorem dL_areLines_60 : decode cL_areLines 60 = .ok (.isub, 1) := sl_row ag_areLines_0 gl_areLines_0 (i := 40) (r := (60, .isub, 1)) rfl
theorem dL_areLines_61 : decode cL_areLines 61 = .ok (.aload_n 0, 1) := sl_row ag_areLines_0 gl_areLines_0 (i := 41) (r := (61, .aload_n 0, 1)) rfl
theorem dL_areLines_62 : decode cL_areLines 62 = .ok (.iconst 2, 1) := sl_row ag_areLines_0 gl_areLines_0 (i := 42) (r := (62, .iconst 2, 1)) rfl
theorem dL_areLines_63 : decode cL_areLines 63 = .ok (.iload_n 3, 1) := sl_row ag_areLines_0 gl_areLines_0 (i := 43) (r := (63, .iload_n 3, 1)) rfl
def ck_areLines_1 : ByteArray := .mk #[0x68, 0x04, 0x60, 0xb6, 0x00, 0x36, 0x1d, 0x64, 0x2a, 0x05, 0x1d, 0x68, 0x04, 0x60, 0xb6, 0x00, 0x36, 0x1d, 0x64, 0xb6, 0x00, 0xd8, 0x15, 0x04, 0x9f, 0x00, 0x05, 0x03, 0xac, 0x84, 0x04, 0x01, 0xa7, 0xff, 0xbd, 0x03, 0x36, 0x04, 0x03, 0x36, 0x05, 0x15, 0x05, 0x1c, 0xa2, 0x00, 0x53, 0x15, 0x05, 0x04, 0x60, 0x36, 0x06, 0x15, 0x06, 0x1c, 0xa2, 0x00, 0x41, 0x2a, 0xb4, 0x00, 0x0a, 0x15, 0x05, 0x15, 0x06, 0xb6]
set_option maxRecDepth 20000 in
theorem ag_areLines_1 : ∀ q, agB cL_areLines ck_areLines_1 (64 + q) q := agB_of 64 (by decide +kernel)
def tl_areLines_1 : List (Nat × Instr × Nat) := [(0, .imul, 1), (1, .iconst 1, 1), (2, .iadd, 1), (3, .invokevirtual 54, 3), (6, .iload_n 3, 1), (7, .isub, 1), (8, .aload_n 0, 1), (9, .iconst 2, 1), (10, .iload_n 3, 1), (11, .imul, 1), (12, .iconst 1, 1), (13, .iadd, 1), (14, .invokevirtual 54, 3), (17, .iload_n 3, 1), (18, .isub, 1), (19, .invokevirtual 216, 3), (22, .iload 4, 2), (24, .if_icmp .eq 5, 3), (27, .iconst 0, 1), (28, .ireturn, 1), (29, .iinc 4 1, 3), (32, .goto (-67), 3), (35, .iconst 0, 1), (36, .istore 4, 2), (38, .iconst 0, 1), (39, .istore 5, 2), (41, .iload 5, 2), (43, .iload_n 2, 1), (44, .if_icmp .ge 83, 3), (47, .iload 5, 2), (49, .iconst 1, 1), (50, .iadd, 1), (51, .istore 6, 2), (53, .iload 6, 2), (55, .iload_n 2, 1), (56, .if_icmp .ge 65, 3), (59, .aload_n 0, 1), (60, .getfield 10, 3), (63, .iload 5, 2)]
theorem gl_areLines_1 : tl_areLines_1.all (fun r => opB ck_areLines_1 r.1 && decide (decode ck_areLines_1 r.1 = .ok (r.2.1, r.2.2))) = true := by decide +kernel
theorem dL_areLines_64 : decode cL_areLines 64 = .ok (.imul, 1) := sl_row ag_areLines_1 gl_areLines_1 (i := 0) (r := (0, .imul, 1)) rfl
theorem dL_areLines_65 : decode cL_areLines 65 = .ok (.iconst 1, 1) := sl_row ag_areLines_1 gl_areLines_1 (i := 1) (r := (1, .iconst 1, 1)) rfl
theorem dL_areLines_66 : decode cL_areLines 66 = .ok (.iadd, 1) := sl_row ag_areLines_1 gl_areLines_1 (i := 2) (r := (2, .iadd, 1)) rfl
theorem dL_areLines_67 : decode cL_areLines 67 = .ok (.invokevirtual 54, 3) := sl_row ag_areLines_1 gl_areLines_1 (i := 3) (r := (3, .invokevirtual 54, 3)) rfl
theorem dL_areLines_70 : decode cL_areLines 70 = .ok (.iload_n 3, 1) := sl_row ag_areLines_1 gl_areLines_1 (i := 4) (r := (6, .iload_n 3, 1)) rfl
theorem dL_areLines_71 : decode cL_areLines 71 = .ok (.isub, 1) := sl_row ag_areLines_1 gl_areLines_1 (i := 5) (r := (7, .isub, 1)) rfl
theorem dL_areLines_72 : decode cL_areLines 72 = .ok (.aload_n 0, 1) := sl_row ag_areLines_1 gl_areLines_1 (i := 6) (r := (8, .aload_n 0, 1)) rfl
theorem dL_areLines_73 : decode cL_areLines 73 = .ok (.iconst 2, 1) := sl_row ag_areLines_1 gl_areLines_1 (i := 7) (r := (9, .iconst 2, 1)) rfl
theorem dL_areLines_74 : decode cL_areLines 74 = .ok (.iload_n 3, 1) := sl_row ag_areLines_1 gl_areLines_1 (i := 8) (r := (10, .iload_n 3, 1)) rfl
theorem dL_areLines_75 : decode cL_areLines 75 = .ok (.imul, 1) := sl_row ag_areLines_1 gl_areLines_1 (i := 9) (r := (11, .imul, 1)) rfl
theorem dL_areLines_76 : decode cL_areLines 76 = .ok (.iconst 1, 1) := sl_row ag_areLines_1 gl_areLines_1 (i := 10) (r := (12, .iconst 1, 1)) rfl
theorem dL_areLines_77 : decode cL_areLines 77 = .ok (.iadd, 1) := sl_row ag_areLines_1 gl_areLines_1 (i := 11) (r := (13, .iadd, 1)) rfl
theorem dL_areLines_78 : decode cL_areLines 78 = .ok (.invokevirtual 54, 3) := sl_row ag_areLines_1 gl_areLines_1 (i := 12) (r := (14, .invokevirtual 54, 3)) rfl
theorem dL_areLines_81 : decode cL_areLines 81 = .ok (.iload_n 3, 1) := sl_row ag_areLines_1 gl_areLines_1 (i := 13) (r := (17, .iload_n 3, 1)) rfl
theorem dL_areLines_82 : decode cL_areLines 82 = .ok (.isub, 1) := sl_row ag_areLines_1 gl_areLines_1 (i := 14) (r := (18, .isub, 1)) rfl
theorem dL_areLines_83 : decode cL_areLines 83 = .ok (.invokevirtual 216, 3) := sl_row ag_areLines_1 gl_areLines_1 (i := 15) (r := (19, .invokevirtual 216, 3)) rfl
theorem dL_areLines_86 : decode cL_areLines 86 = .ok (.iload 4, 2) := sl_row ag_areLines_1 gl_areLines_1 (i := 16) (r := (22, .iload 4, 2)) rfl
theorem dL_areLines_88 : decode cL_areLines 88 = .ok (.if_icmp .eq 5, 3) := sl_row ag_areLines_1 gl_areLines_1 (i := 17) (r := (24, .if_icmp .eq 5, 3)) rfl
theorem dL_areLines_91 : decode cL_areLines 91 = .ok (.iconst 0, 1) := sl_row ag_areLines_1 gl_areLines_1 (i := 18) (r := (27, .iconst 0, 1)) rfl
theorem dL_areLines_92 : decode cL_areLines 92 = .ok (.ireturn, 1) := sl_row ag_areLines_1 gl_areLines_1 (i := 19) (r := (28, .ireturn, 1)) rfl
theorem dL_areLines_93 : decode cL_areLines 93 = .ok (.iinc 4 1, 3) := sl_row ag_areLines_1 gl_areLines_1 (i := 20) (r := (29, .iinc 4 1, 3)) rfl
theorem dL_areLines_96 : decode cL_areLines 96 = .ok (.goto (-67), 3) := sl_row ag_areLines_1 gl_areLines_1 (i := 21) (r := (32, .goto (-67), 3)) rfl
theorem dL_areLines_99 : decode cL_areLines 99 = .ok (.iconst 0, 1) := sl_row ag_areLines_1 gl_areLines_1 (i := 22) (r := (35, .iconst 0, 1)) rfl
theorem dL_areLines_100 : decode cL_areLines 100 = .ok (.istore 4, 2) := sl_row ag_areLines_1 gl_areLines_1 (i := 23) (r := (36, .istore 4, 2)) rfl
theorem dL_areLines_102 : decode cL_areLines 102 = .ok (.iconst 0, 1) := sl_row ag_areLines_1 gl_areLines_1 (i := 24) (r := (38, .iconst 0, 1)) rfl
theorem dL_areLines_103 : decode cL_areLines 103 = .ok (.istore 5, 2) := sl_row ag_areLines_1 gl_areLines_1 (i := 25) (r := (39, .istore 5, 2)) rfl
theorem dL_areLines_105 : decode cL_areLines 105 = .ok (.iload 5, 2) := sl_row ag_areLines_1 gl_areLines_1 (i := 26) (r := (41, .iload 5, 2)) rfl
theorem dL_areLines_107 : decode cL_areLines 107 = .ok (.iload_n 2, 1) := sl_row ag_areLines_1 gl_areLines_1 (i := 27) (r := (43, .iload_n 2, 1)) rfl
theorem dL_areLines_108 : decode cL_areLines 108 = .ok (.if_icmp .ge 83, 3) := sl_row ag_areLines_1 gl_areLines_1 (i := 28) (r := (44, .if_icmp .ge 83, 3)) rfl
theorem dL_areLines_111 : decode cL_areLines 111 = .ok (.iload 5, 2) := sl_row ag_areLines_1 gl_areLines_1 (i := 29) (r := (47, .iload 5, 2)) rfl
theorem dL_areLines_113 : decode cL_areLines 113 = .ok (.iconst 1, 1) := sl_row ag_areLines_1 gl_areLines_1 (i := 30) (r := (49, .iconst 1, 1)) rfl
theorem dL_areLines_114 : decode cL_areLines 114 = .ok (.iadd, 1) := sl_row ag_areLines_1 gl_areLines_1 (i := 31) (r := (50, .iadd, 1)) rfl
theorem dL_areLines_115 : decode cL_areLines 115 = .ok (.istore 6, 2) := sl_row ag_areLines_1 gl_areLines_1 (i := 32) (r := (51, .istore 6, 2)) rfl
theorem dL_areLines_117 : decode cL_areLines 117 = .ok (.iload 6, 2) := sl_row ag_areLines_1 gl_areLines_1 (i := 33) (r := (53, .iload 6, 2)) rfl
theorem dL_areLines_119 : decode cL_areLines 119 = .ok (.iload_n 2, 1) := sl_row ag_areLines_1 gl_areLines_1 (i := 34) (r := (55, .iload_n 2, 1)) rfl
theorem dL_areLines_120 : decode cL_areLines 120 = .ok (.if_icmp .ge 65, 3) := sl_row ag_areLines_1 gl_areLines_1 (i := 35) (r := (56, .if_icmp .ge 65, 3)) rfl
theorem dL_areLines_123 : decode cL_areLines 123 = .ok (.aload_n 0, 1) := sl_row ag_areLines_1 gl_areLines_1 (i := 36) (r := (59, .aload_n 0, 1)) rfl
theorem dL_areLines_124 : decode cL_areLines 124 = .ok (.getfield 10, 3) := sl_row ag_areLines_1 gl_areLines_1 (i := 37) (r := (60, .getfield 10, 3)) rfl
theorem dL_areLines_127 : decode cL_areLines 127 = .ok (.iload 5, 2) := sl_row ag_areLines_1 gl_areLines_1 (i := 38) (r := (63, .iload 5, 2)) rfl
def ck_areLines_2 : ByteArray := .mk #[0x05, 0x15, 0x06, 0xb6, 0x00, 0xdc, 0x9a, 0x00, 0x06, 0xa7, 0x00, 0x2a, 0x2a, 0xb4, 0x00, 0x0a, 0x15, 0x04, 0xb6, 0x00, 0xec, 0x10, 0x64, 0x15, 0x05, 0x68, 0x15, 0x06, 0x60, 0xa0, 0x00, 0x11, 0x2a, 0xb4, 0x00, 0x0a, 0x15, 0x06, 0x15, 0x05, 0xb6, 0x00, 0xdc, 0x9a, 0x00, 0x05, 0x03, 0xac, 0x84, 0x04, 0x01, 0x84, 0x06, 0x01, 0xa7, 0xff, 0xbf, 0x84, 0x05, 0x01, 0xa7, 0xff, 0xad, 0x1b, 0x9b, 0x00, 0x23, 0x2a]
set_option maxRecDepth 20000 in
theorem ag_areLines_2 : ∀ q, agB cL_areLines ck_areLines_2 (128 + q) q := agB_of 128 (by decide +kernel)
def tl_areLines_2 : List (Nat × Instr × Nat) := [(1, .iload 6, 2), (3, .invokevirtual 220, 3), (6, .ifCond .ne 6, 3), (9, .goto 42, 3), (12, .aload_n 0, 1), (13, .getfield 10, 3), (16, .iload 4, 2), (18, .invokevirtual 236, 3), (21, .bipush 100, 2), (23, .iload 5, 2), (25, .imul, 1), (26, .iload 6, 2), (28, .iadd, 1), (29, .if_icmp .ne 17, 3), (32, .aload_n 0, 1), (33, .getfield 10, 3), (36, .iload 6, 2), (38, .iload 5, 2), (40, .invokevirtual 220, 3), (43, .ifCond .ne 5, 3), (46, .iconst 0, 1), (47, .ireturn, 1), (48, .iinc 4 1, 3), (51, .iinc 6 1, 3), (54, .goto (-65), 3), (57, .iinc 5 1, 3), (60, .goto (-83), 3), (63, .iload_n 1, 1)]
theorem gl_areLines_2 : tl_areLines_2.all (fun r => opB ck_areLines_2 r.1 && decide (decode ck_areLines_2 r.1 = .ok (r.2.1, r.2.2))) = true := by decide +kernel
theorem dL_areLines_129 : decode cL_areLines 129 = .ok (.iload 6, 2) := sl_row ag_areLines_2 gl_areLines_2 (i := 0) (r := (1, .iload 6, 2)) rfl
theorem dL_areLines_131 : decode cL_areLines 131 = .ok (.invokevirtual 220, 3) := sl_row ag_areLines_2 gl_areLines_2 (i := 1) (r := (3, .invokevirtual 220, 3)) rfl
theorem dL_areLines_134 : decode cL_areLines 134 = .ok (.ifCond .ne 6, 3) := sl_row ag_areLines_2 gl_areLines_2 (i := 2) (r := (6, .ifCond .ne 6, 3)) rfl
theorem dL_areLines_137 : decode cL_areLines 137 = .ok (.goto 42, 3) := sl_row ag_areLines_2 gl_areLines_2 (i := 3) (r := (9, .goto 42, 3)) rfl
theorem dL_areLines_140 : decode cL_areLines 140 = .ok (.aload_n 0, 1) := sl_row ag_areLines_2 gl_areLines_2 (i := 4) (r := (12, .aload_n 0, 1)) rfl
theorem dL_areLines_141 : decode cL_areLines 141 = .ok (.getfield 10, 3) := sl_row ag_areLines_2 gl_areLines_2 (i := 5) (r := (13, .getfield 10, 3)) rfl
theorem dL_areLines_144 : decode cL_areLines 144 = .ok (.iload 4, 2) := sl_row ag_areLines_2 gl_areLines_2 (i := 6) (r := (16, .iload 4, 2)) rfl
theorem dL_areLines_146 : decode cL_areLines 146 = .ok (.invokevirtual 236, 3) := sl_row ag_areLines_2 gl_areLines_2 (i := 7) (r := (18, .invokevirtual 236, 3)) rfl
theorem dL_areLines_149 : decode cL_areLines 149 = .ok (.bipush 100, 2) := sl_row ag_areLines_2 gl_areLines_2 (i := 8) (r := (21, .bipush 100, 2)) rfl
theorem dL_areLines_151 : decode cL_areLines 151 = .ok (.iload 5, 2) := sl_row ag_areLines_2 gl_areLines_2 (i := 9) (r := (23, .iload 5, 2)) rfl
theorem dL_areLines_153 : decode cL_areLines 153 = .ok (.imul, 1) := sl_row ag_areLines_2 gl_areLines_2 (i := 10) (r := (25, .imul, 1)) rfl
theorem dL_areLines_154 : decode cL_areLines 154 = .ok (.iload 6, 2) := sl_row ag_areLines_2 gl_areLines_2 (i := 11) (r := (26, .iload 6, 2)) rfl
theorem dL_areLines_156 : decode cL_areLines 156 = .ok (.iadd, 1) := sl_row ag_areLines_2 gl_areLines_2 (i := 12) (r := (28, .iadd, 1)) rfl
theorem dL_areLines_157 : decode cL_areLines 157 = .ok (.if_icmp .ne 17, 3) := sl_row ag_areLines_2 gl_areLines_2 (i := 13) (r := (29, .if_icmp .ne 17, 3)) rfl
theorem dL_areLines_160 : decode cL_areLines 160 = .ok (.aload_n 0, 1) := sl_row ag_areLines_2 gl_areLines_2 (i := 14) (r := (32, .aload_n 0, 1)) rfl
theorem dL_areLines_161 : decode cL_areLines 161 = .ok (.getfield 10, 3) := sl_row ag_areLines_2 gl_areLines_2 (i := 15) (r := (33, .getfield 10, 3)) rfl
theorem dL_areLines_164 : decode cL_areLines 164 = .ok (.iload 6, 2) := sl_row ag_areLines_2 gl_areLines_2 (i := 16) (r := (36, .iload 6, 2)) rfl
theorem dL_areLines_166 : decode cL_areLines 166 = .ok (.iload 5, 2) := sl_row ag_areLines_2 gl_areLines_2 (i := 17) (r := (38, .iload 5, 2)) rfl
theorem dL_areLines_168 : decode cL_areLines 168 = .ok (.invokevirtual 220, 3) := sl_row ag_areLines_2 gl_areLines_2 (i := 18) (r := (40, .invokevirtual 220, 3)) rfl
theorem dL_areLines_171 : decode cL_areLines 171 = .ok (.ifCond .ne 5, 3) := sl_row ag_areLines_2 gl_areLines_2 (i := 19) (r := (43, .ifCond .ne 5, 3)) rfl
theorem dL_areLines_174 : decode cL_areLines 174 = .ok (.iconst 0, 1) := sl_row ag_areLines_2 gl_areLines_2 (i := 20) (r := (46, .iconst 0, 1)) rfl
theorem dL_areLines_175 : decode cL_areLines 175 = .ok (.ireturn, 1) := sl_row ag_areLines_2 gl_areLines_2 (i := 21) (r := (47, .ireturn, 1)) rfl
theorem dL_areLines_176 : decode cL_areLines 176 = .ok (.iinc 4 1, 3) := sl_row ag_areLines_2 gl_areLines_2 (i := 22) (r := (48, .iinc 4 1, 3)) rfl
theorem dL_areLines_179 : decode cL_areLines 179 = .ok (.iinc 6 1, 3) := sl_row ag_areLines_2 gl_areLines_2 (i := 23) (r := (51, .iinc 6 1, 3)) rfl
theorem dL_areLines_182 : decode cL_areLines 182 = .ok (.goto (-65), 3) := sl_row ag_areLines_2 gl_areLines_2 (i := 24) (r := (54, .goto (-65), 3)) rfl
theorem dL_areLines_185 : decode cL_areLines 185 = .ok (.iinc 5 1, 3) := sl_row ag_areLines_2 gl_areLines_2 (i := 25) (r := (57, .iinc 5 1, 3)) rfl
theorem dL_areLines_188 : decode cL_areLines 188 = .ok (.goto (-83), 3) := sl_row ag_areLines_2 gl_areLines_2 (i := 26) (r := (60, .goto (-83), 3)) rfl
theorem dL_areLines_191 : decode cL_areLines 191 = .ok (.iload_n 1, 1) := sl_row ag_areLines_2 gl_areLines_2 (i := 27) (r := (63, .iload_n 1, 1)) rfl
def ck_areLines_3 : ByteArray := .mk #[0x9b, 0x00, 0x23, 0x2a, 0xb4, 0x00, 0x0a, 0xb6, 0x00, 0xef, 0x15, 0x04, 0xa0, 0x00, 0x17, 0x2a, 0xb4, 0x00, 0x0a, 0x1c, 0x04, 0x64, 0x1c, 0x04, 0x64, 0xb6, 0x00, 0xdc, 0x99, 0x00, 0x07, 0x04, 0xa7, 0x00, 0x04, 0x03, 0xac]
set_option maxRecDepth 20000 in
theorem ag_areLines_3 : ∀ q, agB cL_areLines ck_areLines_3 (192 + q) q := agB_of 192 (by decide +kernel)
def tl_areLines_3 : List (Nat × Instr × Nat) := [(0, .ifCond .lt 35, 3), (3, .aload_n 0, 1), (4, .getfield 10, 3), (7, .invokevirtual 239, 3), (10, .iload 4, 2), (12, .if_icmp .ne 23, 3), (15, .aload_n 0, 1), (16, .getfield 10, 3), (19, .iload_n 2, 1), (20, .iconst 1, 1), (21, .isub, 1), (22, .iload_n 2, 1), (23, .iconst 1, 1), (24, .isub, 1), (25, .invokevirtual 220, 3), (28, .ifCond .eq 7, 3), (31, .iconst 1, 1), (32, .goto 4, 3), (35, .iconst 0, 1), (36, .ireturn, 1)]
theorem gl_areLines_3 : tl_areLines_3.all (fun r => opB ck_areLines_3 r.1 && decide (decode ck_areLines_3 r.1 = .ok (r.2.1, r.2.2))) = true := by decide +kernel
theorem dL_areLines_192 : decode cL_areLines 192 = .ok (.ifCond .lt 35, 3) := sl_row ag_areLines_3 gl_areLines_3 (i := 0) (r := (0, .ifCond .lt 35, 3)) rfl
theorem dL_areLines_195 : decode cL_areLines 195 = .ok (.aload_n 0, 1) := sl_row ag_areLines_3 gl_areLines_3 (i := 1) (r := (3, .aload_n 0, 1)) rfl
theorem dL_areLines_196 : decode cL_areLines 196 = .ok (.getfield 10, 3) := sl_row ag_areLines_3 gl_areLines_3 (i := 2) (r := (4, .getfield 10, 3)) rfl
theorem dL_areLines_199 : decode cL_areLines 199 = .ok (.invokevirtual 239, 3) := sl_row ag_areLines_3 gl_areLines_3 (i := 3) (r := (7, .invokevirtual 239, 3)) rfl
theorem dL_areLines_202 : decode cL_areLines 202 = .ok (.iload 4, 2) := sl_row ag_areLines_3 gl_areLines_3 (i := 4) (r := (10, .iload 4, 2)) rfl
theorem dL_areLines_204 : decode cL_areLines 204 = .ok (.if_icmp .ne 23, 3) := sl_row ag_areLines_3 gl_areLines_3 (i := 5) (r := (12, .if_icmp .ne 23, 3)) rfl
theorem dL_areLines_207 : decode cL_areLines 207 = .ok (.aload_n 0, 1) := sl_row ag_areLines_3 gl_areLines_3 (i := 6) (r := (15, .aload_n 0, 1)) rfl
theorem dL_areLines_208 : decode cL_areLines 208 = .ok (.getfield 10, 3) := sl_row ag_areLines_3 gl_areLines_3 (i := 7) (r := (16, .getfield 10, 3)) rfl
theorem dL_areLines_211 : decode cL_areLines 211 = .ok (.iload_n 2, 1) := sl_row ag_areLines_3 gl_areLines_3 (i := 8) (r := (19, .iload_n 2, 1)) rfl
theorem dL_areLines_212 : decode cL_areLines 212 = .ok (.iconst 1, 1) := sl_row ag_areLines_3 gl_areLines_3 (i := 9) (r := (20, .iconst 1, 1)) rfl
theorem dL_areLines_213 : decode cL_areLines 213 = .ok (.isub, 1) := sl_row ag_areLines_3 gl_areLines_3 (i := 10) (r := (21, .isub, 1)) rfl
theorem dL_areLines_214 : decode cL_areLines 214 = .ok (.iload_n 2, 1) := sl_row ag_areLines_3 gl_areLines_3 (i := 11) (r := (22, .iload_n 2, 1)) rfl
theorem dL_areLines_215 : decode cL_areLines 215 = .ok (.iconst 1, 1) := sl_row ag_areLines_3 gl_areLines_3 (i := 12) (r := (23, .iconst 1, 1)) rfl
theorem dL_areLines_216 : decode cL_areLines 216 = .ok (.isub, 1) := sl_row ag_areLines_3 gl_areLines_3 (i := 13) (r := (24, .isub, 1)) rfl
theorem dL_areLines_217 : decode cL_areLines 217 = .ok (.invokevirtual 220, 3) := sl_row ag_areLines_3 gl_areLines_3 (i := 14) (r := (25, .invokevirtual 220, 3)) rfl
theorem dL_areLines_220 : decode cL_areLines 220 = .ok (.ifCond .eq 7, 3) := sl_row ag_areLines_3 gl_areLines_3 (i := 15) (r := (28, .ifCond .eq 7, 3)) rfl
theorem dL_areLines_223 : decode cL_areLines 223 = .ok (.iconst 1, 1) := sl_row ag_areLines_3 gl_areLines_3 (i := 16) (r := (31, .iconst 1, 1)) rfl
theorem dL_areLines_224 : decode cL_areLines 224 = .ok (.goto 4, 3) := sl_row ag_areLines_3 gl_areLines_3 (i := 17) (r := (32, .goto 4, 3)) rfl
theorem dL_areLines_227 : decode cL_areLines 227 = .ok (.iconst 0, 1) := sl_row ag_areLines_3 gl_areLines_3 (i := 18) (r := (35, .iconst 0, 1)) rfl
theorem dL_areLines_228 : decode cL_areLines 228 = .ok (.ireturn, 1) := sl_row ag_areLines_3 gl_areLines_3 (i := 19) (r := (36, .ireturn, 1)) rfl
