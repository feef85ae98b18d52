/-! THE CLAIM OUT OF ONE WALK OF THE LAW'S BODY. Your part is whole_start (and what it stands on); all else here is the same for every law, but numbers. -/
def R_law : String := "HashedLearnerLaw"
def lw_P (b : Addr) (xs : List Int32) (args : Array Value) (s : State) : Prop := args = #[.ref b] ∧ s.IntsAt b xs ∧ xs.length ≤ 1539 ∧ (Jvm.Cond.and given_1 narrow_1).before args s = true
def lw_Q (_ : Array Value) (s : State) (o : Outcome) (t : State) : Prop := o = .returned (some (.int 1)) ∧ Framed s o t [] 600000 7302249
def lw_Z (below : List Frame) (a : Array Value) (s : State) : State → Prop := fun t => ∃ o, t.status = .running ∧ Ended t below o ∧ lw_Q a s o t
/-- the law's own end, with 1 on the stack, nothing written that was there before, its room as the claim has it -/
theorem lw_ret {p : Program} {l : Launch} {e : Env} {s : State} {m : MethodId} {below : List Frame} {meth : Method} {c : Code} {b : Nat} (hx : p.tables.exec = Jvm.exec) (hb : c.code = code) (hr : meth.sig.returnType = ret) (hlocks : meth.locks = false) {pc : Nat} {H : Heap} {ls : Array Slot} (hdg : decode code pc = .ok (.ireturn, 1)) : W p l e room_1 s m #[Value.ref b] below meth c H [] 600000 7302249 (lw_Z below #[Value.ref b] s) (F0 m pc ls [.int 1]) := by
  intro T hT X
  obtain ⟨fs, hret, hrun, hended, hW, hframe⟩ := X.leave (v := some (.int 1)) (hlocks := hlocks) (fun h => by rw [hr] at h; cases h)
  have hmeth' : T.vm.method? m = some meth := X.method'
  refine ⟨T.setFrames fs, ?_, .returned (some (.int 1)), hrun, hended, rfl, ⟨_, rfl⟩, hW, hframe⟩
  jvm_step X.here [X.here.top, hx, hb, hdg, hmeth', hr, ret, narrow_b1]
  (try refine ⟨rfl, ?_⟩); (try refine ⟨rfl, ?_⟩)
  first | (intro acts; rw [hret _ acts rfl rfl rfl]) | rw [hret _ _ rfl rfl rfl]
  exact Steps.refl _
/-- what holds at the law's entry: the machine, the code, the tables' words (any of lw_tbl by 'hts w (by decide +kernel)'), the script of L ints xs at the cell b, what the Statement gives of the start (any of its parts by flat_of_before) -/
def lw_At (p : Program) (s : State) (m : MethodId) (meth : Method) (c : Code) (b L : Nat) (xs : Nat → Int32) : Prop :=
  p.tables.exec = Jvm.exec ∧ c.code = code ∧ meth.sig.returnType = ret ∧ c.maxLocals = 4 ∧ s.vm.findClass R_law = some m.cls ∧ (∀ w ∈ lw_tbl, w.before #[Value.ref b] s = true) ∧ va_X b L xs s s.heap ∧ b < s.heap.size ∧ meth.locks = false ∧ (Jvm.Cond.and given_1 narrow_1).before #[Value.ref b] s = true
/-! The start. -/
theorem hq_nestOn {w : Jvm.Cond} (hw : hq_isNest w = true) : w.onTables = true := by
  cases w <;> first | rfl | (exact absurd hw (by simp [hq_isNest]))
theorem hq_rule_in (x : Int32) : hq_rule x = 0 ∨ hq_rule x = 1 := by
  unfold hq_rule
  by_cases h : x = 1
  · rw [if_pos h]; exact Or.inr rfl
  · rw [if_neg h]; exact Or.inl rfl
theorem hq_kind_in (x : Int32) : hq_kind x = 0 ∨ hq_kind x = 1 ∨ hq_kind x = 2 := by
  unfold hq_kind
  by_cases h1 : x < 0
  · rw [if_pos h1]; exact Or.inl rfl
  · rw [if_neg h1]
    by_cases h2 : 2 < x
    · rw [if_pos h2]; exact Or.inl rfl
    · rw [if_neg h2]
      have a1 : ¬ x.toInt < (0 : Int32).toInt := fun h => h1 (Int32.lt_iff_toInt_lt.mpr h)
      have a2 : ¬ (2 : Int32).toInt < x.toInt := fun h => h2 (Int32.lt_iff_toInt_lt.mpr h)
      have e0 : (0 : Int32).toInt = 0 := by decide
      have e1 : (1 : Int32).toInt = 1 := by decide
      have e2 : (2 : Int32).toInt = 2 := by decide
      rcases (show x.toInt = 0 ∨ x.toInt = 1 ∨ x.toInt = 2 by omega) with h | h | h
      · exact Or.inl (Int32.toInt_inj.mp (by rw [h, e0]))
      · exact Or.inr (Or.inl (Int32.toInt_inj.mp (by rw [h, e1])))
      · exact Or.inr (Or.inr (Int32.toInt_inj.mp (by rw [h, e2])))
theorem hq_tb0 (n : Nat) (ru : Int32) : hq_tb n ru (fun _ => 0) (fun _ => 0) (fun _ => 0) (fun _ => 0) (fun _ => 0) (fun _ => 0) := by
  refine ⟨fun a _ => ?_, fun a _ => ?_⟩
  · show 0 ≤ (0 : Int64).toInt ∧ (0 : Int64).toInt ≤ 10000000000000000 ∧ (¬ ru = 1 → 0 ≤ (0 : Int64).toInt ∧ (0 : Int64).toInt ≤ 99999)
    exact ⟨by decide, by decide, fun _ => ⟨by decide, by decide⟩⟩
  · show (0 : Int64) = Int32.toInt64 (0 : Int32) ∧ (0 : Int64) = 0 ∧ (0 : Int64) = 0 ∧ -100000000 ≤ (0 : Int32).toInt ∧ (0 : Int32).toInt ≤ 100000000
    exact ⟨by decide, rfl, rfl, by decide, by decide⟩
theorem hq_K0 {s : State} {args : Array Value} (hW : ∀ x ∈ hq_W, x.before args s = true) (hO : hq_over s) : ∃ (D : va_G) (G : Nat → ClassId), va_K D hq_cl (hq_tys G) s := by
  have h1 : ∀ c : Nat, ∃ z : ClassId × (Nat → Nat), ∀ q, hq_cl[c]? = some q → u_Kn s q.1 q.2.1 q.2.2 z.1 z.2 := by
    intro c
    rcases (show c = 0 ∨ c = 1 ∨ c = 2 ∨ c = 3 ∨ c = 4 ∨ c = 5 ∨ c = 6 ∨ c = 7 ∨ c = 8 ∨ 9 ≤ c by omega) with rfl | rfl | rfl | rfl | rfl | rfl | rfl | rfl | rfl | h9
    · obtain ⟨cC, iS, h⟩ := u_known (C := R_Crossings) (T := F_Crossings) (N := 4) hW uw_Crossings (hW _ kn_Crossings)
      exact ⟨(cC, iS), fun q hq => by obtain rfl := Option.some.inj (show some (R_Crossings, F_Crossings, 4) = some q from hq); exact h⟩
    · obtain ⟨cC, iS, h⟩ := u_known (C := R_Example) (T := F_Example) (N := 7) hW uw_Example (hW _ kn_Example)
      exact ⟨(cC, iS), fun q hq => by obtain rfl := Option.some.inj (show some (R_Example, F_Example, 7) = some q from hq); exact h⟩
    · obtain ⟨cC, iS, h⟩ := u_known (C := R_Line) (T := F_Line) (N := 7) hW uw_Line (hW _ kn_Line)
      exact ⟨(cC, iS), fun q hq => by obtain rfl := Option.some.inj (show some (R_Line, F_Line, 7) = some q from hq); exact h⟩
    · obtain ⟨cC, iS, h⟩ := u_known (C := R_Loss) (T := F_Loss) (N := 1) hW uw_Loss (hW _ kn_Loss)
      exact ⟨(cC, iS), fun q hq => by obtain rfl := Option.some.inj (show some (R_Loss, F_Loss, 1) = some q from hq); exact h⟩
    · obtain ⟨cC, iS, h⟩ := u_known (C := R_Table) (T := F_Table) (N := 4) hW uw_Table (hW _ kn_Table)
      exact ⟨(cC, iS), fun q hq => by obtain rfl := Option.some.inj (show some (R_Table, F_Table, 4) = some q from hq); exact h⟩
    · obtain ⟨cC, iS, h⟩ := u_known (C := R_Tally) (T := F_Tally) (N := 6) hW uw_Tally (hW _ kn_Tally)
      exact ⟨(cC, iS), fun q hq => by obtain rfl := Option.some.inj (show some (R_Tally, F_Tally, 6) = some q from hq); exact h⟩
    · obtain ⟨cC, iS, h⟩ := u_known (C := R_Terms) (T := F_Terms) (N := 3) hW uw_Terms (hW _ kn_Terms)
      exact ⟨(cC, iS), fun q hq => by obtain rfl := Option.some.inj (show some (R_Terms, F_Terms, 3) = some q from hq); exact h⟩
    · obtain ⟨cC, iS, h⟩ := u_known (C := R_H) (T := F_H) (N := 14) hW uw_H (hW _ kn_H)
      exact ⟨(cC, iS), fun q hq => by obtain rfl := Option.some.inj (show some (R_H, F_H, 14) = some q from hq); exact h⟩
    · obtain ⟨cC, iS, h⟩ := u_known (C := R_M) (T := F_M) (N := 34) hW uw_M (hW _ kn_M)
      exact ⟨(cC, iS), fun q hq => by obtain rfl := Option.some.inj (show some (R_M, F_M, 34) = some q from hq); exact h⟩
    · exact ⟨((0 : Nat), fun _ => 0), fun q hq => by rw [List.getElem?_eq_none (show hq_cl.length ≤ c from h9)] at hq; cases hq⟩
  obtain ⟨f, hf⟩ := Classical.axiomOfChoice h1
  obtain ⟨g0, k0, m0, a0, b0, d0⟩ := Cond.arrayClass_spec (hW _ ac_int)
  obtain ⟨g1, k1, m1, a1, b1, d1⟩ := Cond.arrayClass_spec (hW _ ac_long)
  obtain ⟨g2, k2, m2, a2, b2, d2⟩ := Cond.arrayClass_spec (hW _ ac_char)
  obtain ⟨g3, k3, m3, a3, b3, d3⟩ := Cond.arrayClass_spec (hW _ ac_boolean)
  obtain ⟨m4, g4, k4, f4, -, b4, d4, a4⟩ := Cond.arrayOver_spec hO.1
  obtain ⟨m5, g5, k5, f5, -, b5, d5, a5⟩ := Cond.arrayOver_spec hO.2
  refine ⟨(fun c => (f c).1, fun c => (f c).2), fun k => match k with | 0 => g0 | 1 => g1 | 2 => g2 | 3 => g3 | 4 => g4 | _ => g5, fun c q hq => hf c q hq, fun k q hq => ?_⟩
  rcases (show k = 0 ∨ k = 1 ∨ k = 2 ∨ k = 3 ∨ k = 4 ∨ k = 5 ∨ 6 ≤ k by omega) with rfl | rfl | rfl | rfl | rfl | rfl | h9
  · obtain rfl := Option.some.inj (show some (g0, FieldType.int) = some q from hq)
    exact ⟨fun n z => ⟨fun k h => (by cases h), k0, b0, m0, d0⟩, a0⟩
  · obtain rfl := Option.some.inj (show some (g1, FieldType.long) = some q from hq)
    exact ⟨fun n z => ⟨fun k h => (by cases h), k1, b1, m1, d1⟩, a1⟩
  · obtain rfl := Option.some.inj (show some (g2, FieldType.char) = some q from hq)
    exact ⟨fun n z => ⟨fun k h => (by cases h), k2, b2, m2, d2⟩, a2⟩
  · obtain rfl := Option.some.inj (show some (g3, FieldType.boolean) = some q from hq)
    exact ⟨fun n z => ⟨fun k h => (by cases h), k3, b3, m3, d3⟩, a3⟩
  · obtain rfl := Option.some.inj (show some (g4, FieldType.object "HashedLearner$Example") = some q from hq)
    exact ⟨fun n z => ⟨fun k h => (by cases h), k4, b4, m4, d4⟩, k4, m4, b4, d4, f4, a4⟩
  · obtain rfl := Option.some.inj (show some (g5, FieldType.object "HashedLearner$Table") = some q from hq)
    exact ⟨fun n z => ⟨fun k h => (by cases h), k5, b5, m5, d5⟩, k5, m5, b5, d5, f5, a5⟩
  · rw [List.getElem?_eq_none (show (hq_tys _).length ≤ k from h9)] at hq
    cases hq
set_option maxHeartbeats 4000000 in
set_option maxRecDepth 100000 in
/-- from the entry, for every script of at most 1539 ints, the law comes to its end with true -/
theorem whole_start {p : Program} {e : Env} {s : State} {m : MethodId} {below : List Frame} {meth : Method} {c : Code} (l : Launch) {b L : Nat} {xs : Nat → Int32} (hL : L ≤ 1539) (C0 : lw_At p s m meth c b L xs) : W p l e room_1 s m #[Value.ref b] below meth c s.heap [] 0 0 (lw_Z below #[Value.ref b] s) (entryFrame m ([Value.ref b] : List Value).toArray 4) := by
  obtain ⟨hx, hb, hr, hml, hown, hts, hX, hbl, hlocks, hgv⟩ := C0
  have hW : ∀ x ∈ hq_W, x.before #[Value.ref b] s = true := fun x hq => hts x (List.mem_filter.mp hq).1
  have hO : hq_over s := ⟨va_AO.of (hts _ (List.mem_of_getElem? (i := 118) (show lw_tbl[118]? = some (Jvm.Cond.arrayOver (.object "HashedLearner$Example")) by decide +kernel))), va_AO.of (hts _ (List.mem_of_getElem? (i := 172) (show lw_tbl[172]? = some (Jvm.Cond.arrayOver (.object "HashedLearner$Table")) by decide +kernel)))⟩
  obtain ⟨D, G, hK⟩ := hq_K0 hW hO
  have hN : ∀ x ∈ hq_N, va_Nw x s := fun x hq => va_Nw.of (hq_nestOn (hq_Nn hq)) (hts x (List.mem_append_right _ (List.mem_filter.mp hq).1))
  have C9 : hq_LC p s m meth c #[Value.ref b] D G (fun q => s.heap.size ≤ q) b L xs := ⟨hx, hb, hml, hown, hW, fun q h => h, hK, hN, hX, hbl, Nat.not_le.mpr hbl, hO⟩
  rw [lg_entry_eq]
  refine c_Law_op_start C9 [] hL (fun u H locs ls hp hl hP hD hS => ?_) _ s.heap [] (lv_entry [.ref b] (Nat.le_of_ble_eq_true rfl)) (fun k q h => (by simp at h)) ⟨fun i j p q h => (by simp at h), fun k q h => (by simp at h)⟩ va_S.rf
  refine hq_loop C9 [] hL u.1 u.2.1 u.2.2.1 u.2.2.2.1 u.2.2.2.2.1 u.2.2.2.2.2.1 u.2.2.2.2.2.2.1 u.2.2.2.2.2.2.2.1 u.2.2.2.2.2.2.2.2.1 u.2.2.2.2.2.2.2.2.2.1 u.2.2.2.2.2.2.2.2.2.2.1 u.2.2.2.2.2.2.2.2.2.2.2.2.2.2.2.1 u.2.2.2.2.2.2.2.2.2.2.2.1 u.2.2.2.2.2.2.2.2.2.2.2.2.1 u.2.2.2.2.2.2.2.2.2.2.2.2.2.2.2.2.1 u.2.2.2.2.2.2.2.2.2.2.2.2.2.2.2.2.2.1 u.2.2.2.2.2.2.2.2.2.2.2.2.2.2.2.2.2.2.1 u.2.2.2.2.2.2.2.2.2.2.2.2.2.2.2.2.2.2.2.1 u.2.2.2.2.2.2.2.2.2.2.2.2.2.1 u.2.2.2.2.2.2.2.2.2.2.2.2.2.2.1 u.2.2.2.2.2.2.2.2.2.2.2.2.2.2.2.2.2.2.2.2.1 u.2.2.2.2.2.2.2.2.2.2.2.2.2.2.2.2.2.2.2.2.2.1 u.2.2.2.2.2.2.2.2.2.2.2.2.2.2.2.2.2.2.2.2.2.2.1 u.2.2.2.2.2.2.2.2.2.2.2.2.2.2.2.2.2.2.2.2.2.2.2.1 u.2.2.2.2.2.2.2.2.2.2.2.2.2.2.2.2.2.2.2.2.2.2.2.2.1 u.2.2.2.2.2.2.2.2.2.2.2.2.2.2.2.2.2.2.2.2.2.2.2.2.2.1 u.2.2.2.2.2.2.2.2.2.2.2.2.2.2.2.2.2.2.2.2.2.2.2.2.2.2.1 u.2.2.2.2.2.2.2.2.2.2.2.2.2.2.2.2.2.2.2.2.2.2.2.2.2.2.2.1 u.2.2.2.2.2.2.2.2.2.2.2.2.2.2.2.2.2.2.2.2.2.2.2.2.2.2.2.2.2.2.2.2.1 u.2.2.2.2.2.2.2.2.2.2.2.2.2.2.2.2.2.2.2.2.2.2.2.2.2.2.2.2.2.2.2.2.2.1 u.2.2.2.2.2.2.2.2.2.2.2.2.2.2.2.2.2.2.2.2.2.2.2.2.2.2.2.2.2.2.2.2.2.2.1 u.2.2.2.2.2.2.2.2.2.2.2.2.2.2.2.2.2.2.2.2.2.2.2.2.2.2.2.2.2.2.2.2.2.2.2.1 u.2.2.2.2.2.2.2.2.2.2.2.2.2.2.2.2.2.2.2.2.2.2.2.2.2.2.2.2.2.2.2.2.2.2.2.2.1 u.2.2.2.2.2.2.2.2.2.2.2.2.2.2.2.2.2.2.2.2.2.2.2.2.2.2.2.2.2.2.2.2.2.2.2.2.2.1 u.2.2.2.2.2.2.2.2.2.2.2.2.2.2.2.2.2.2.2.2.2.2.2.2.2.2.2.2.2.2.2.2.2.2.2.2.2.2.1 u.2.2.2.2.2.2.2.2.2.2.2.2.2.2.2.2.2.2.2.2.2.2.2.2.2.2.2.2.2.2.2.2.2.2.2.2.2.2.2.1 u.2.2.2.2.2.2.2.2.2.2.2.2.2.2.2.2.2.2.2.2.2.2.2.2.2.2.2.2.2.2.2.2.2.2.2.2.2.2.2.2.1 u.2.2.2.2.2.2.2.2.2.2.2.2.2.2.2.2.2.2.2.2.2.2.2.2.2.2.2.2.2.2.2.2.2.2.2.2.2.2.2.2.2.1 u.2.2.2.2.2.2.2.2.2.2.2.2.2.2.2.2.2.2.2.2.2.2.2.2.2.2.2.2.2.2.2.2.2.2.2.2.2.2.2.2.2.2.1 u.2.2.2.2.2.2.2.2.2.2.2.2.2.2.2.2.2.2.2.2.2.2.2.2.2.2.2.2.2.2.2.2.2.2.2.2.2.2.2.2.2.2.2.1 u.2.2.2.2.2.2.2.2.2.2.2.2.2.2.2.2.2.2.2.2.2.2.2.2.2.2.2.2.2.2.2.2.2.2.2.2.2.2.2.2.2.2.2.2.1 u.2.2.2.2.2.2.2.2.2.2.2.2.2.2.2.2.2.2.2.2.2.2.2.2.2.2.2.2.2.2.2.2.2.2.2.2.2.2.2.2.2.2.2.2.2.1 u.2.2.2.2.2.2.2.2.2.2.2.2.2.2.2.2.2.2.2.2.2.2.2.2.2.2.2.2.2.2.2.2.2.2.2.2.2.2.2.2.2.2.2.2.2.2.1 u.2.2.2.2.2.2.2.2.2.2.2.2.2.2.2.2.2.2.2.2.2.2.2.2.2.2.2.2.2.2.2.2.2.2.2.2.2.2.2.2.2.2.2.2.2.2.2 (fun H locs ls hS => ?_) 520 0 0 (fun _ => (0 : Int32)) 0 0 100 32 0 100 (fun _ => (0 : Int32)) (fun _ => (0 : Int32)) 0 false 0 0 0 0 u.2.2.2.2.2.2.2.2.2.2.2.2.2.2.2.2.2.2.2.2.2.2.2.2.2.2.2.2.1 u.2.2.2.2.2.2.2.2.2.2.2.2.2.2.2.2.2.2.2.2.2.2.2.2.2.2.2.2.2.1 u.2.2.2.2.2.2.2.2.2.2.2.2.2.2.2.2.2.2.2.2.2.2.2.2.2.2.2.2.2.2.1 0 (fun _ => (0 : Int32)) (fun _ => (0 : Int32)) (hq_slots (hq_cell xs L 0)) (hq_rule (hq_cell xs L 2)) (hq_kind (hq_cell xs L 1)) (fun _ => (0 : Int64)) 0 0 0 0 0 (fun _ => (0 : Int32)) (fun _ => (0 : Int64)) (fun _ => (0 : Int64)) (fun _ => (0 : Int32)) (fun _ => (0 : Int64)) (fun _ => (0 : Int64)) (fun _ => (0 : Int32)) (fun _ => (0 : Int64)) (fun _ => (0 : Int64)) (fun _ => (0 : Int32)) 0 0 0 0 0 (fun _ => (0 : Int32)) (fun _ => (0 : Int32)) (fun _ => (0 : Int32)) (fun _ => (0 : Int32)) (fun _ => (0 : Int32)) (fun _ => (0 : Int32)) (fun _ => (0 : Int32)) (fun _ => (0 : Int64)) (fun _ => (0 : Int64)) (fun _ => (0 : Int64)) u.2.2.2.2.2.2.2.2.2.2.2.2.2.2.2.2.2.2.2.2.2.2.2.2.2.2.2.2.2.2.2.1 ls H locs rfl (by omega) (by omega) ?_ ?_ ?_ ?_ ?_ hl hP hD hS
  · refine lv_iconst (v := 1) hx hb d_Law_law_535 (by decide) ?_
    refine va_forget hS.2.2 ?_
    refine W.widen (k := 600000) (n := 7302249) (by decide) (by decide) ?_
    exact lw_ret hx hb hr hlocks d_Law_law_536
  · exact ⟨by omega, fun q h => absurd h (by omega), by omega, fun i j _ h => absurd h (by omega)⟩
  · exact ⟨by omega, by omega, by omega, fun j hj => by have q := hp.1 j hj; rw [Nat.zero_add] at q; exact q, hp.2.1, fun j hj => Nat.le_trans (Nat.le_of_eq (hp.2.2.2.2 j hj)) (by omega), fun p h => absurd h (by omega), fun k h => absurd h (by omega)⟩
  · exact ⟨hq_slots_pow _, hq_rule_in _, hq_tb0 _ _, hq_tb0 _ _, hq_tb0 _ _⟩
  · exact ⟨rfl, ⟨by decide, by decide⟩, rfl⟩
  · exact ⟨hq_kind_in _, hp.2.2.1, hp.2.2.2.1, Or.inl rfl, Or.inl rfl⟩
set_option maxHeartbeats 4000000 in
theorem lw_walk (l : Launch) (b : Addr) (xs : List Int32) : MetFree l x (headSpec (Jvm.Cond.code x code maxLocals ret :: tables_1) room_1) (lw_P b xs) (fun _ _ _ _ _ => True) lw_Q := by
  refine MetFree.of_bodyS (code := code) (maxLocals := maxLocals) (ret := ret) (by decide) ?_ ?_
  · intro args s m h hn
    obtain ⟨meth, c, h1, h2, h3, h4, h5, h6, -, -⟩ := Cond.code_spec hn (atoms_spec (ws := Jvm.Cond.code x code maxLocals ret :: tables_1) h _ List.mem_cons_self)
    exact ⟨meth, c, h1, h2, h3, h4, h5, h6⟩
  · intro p e s m args below meth c s₁ B hml0 hP _
    obtain ⟨rfl, hx, hbd, hgv⟩ := hP
    obtain ⟨scr, harrAt, hlist, hof, hsmall⟩ := hx
    obtain ⟨hcb, hkn, -, -⟩ := State.arrayAt?_spec harrAt
    have hown : s.vm.findClass R_law = some m.cls := findClass_of_methodNamed B.named
    have hts0 : ∀ c ∈ (Jvm.Cond.code x code maxLocals ret :: tables_1), c.before #[Value.ref b] s = true := atoms_spec (ws := Jvm.Cond.code x code maxLocals ret :: tables_1) B.pre
    have hts : ∀ w ∈ lw_tbl, w.before #[Value.ref b] s = true := k2_hts_sels lw_privs (fun w hw => hts0 w (List.mem_cons_of_mem _ hw)) lw_privs_ok
    have hml : c.maxLocals = 4 := B.maxLocals_eq (hts0 _ List.mem_cons_self)
    have X₀ : Stand p l e room_1 s m #[Value.ref b] below meth c s₁ [] 0 0 := Stand.of_body B
    have hh0 : s₁.heap = s.heap := by rw [B.state]; rfl
    have hsz : scr.slots.size = xs.length := by rw [← Array.length_toList, hlist, List.length_map]
    have hval : ∀ j : Nat, j < xs.length → scr.slots[j]? = some (.int (xs.getD j 0)) := fun j hj => by
      rw [← Array.getElem?_toList, hlist]
      simp [hj]
    have hbl : b < s.heap.size := (Array.getElem?_eq_some_iff.mp hcb).1
    have hX : va_X b xs.length (fun j => xs.getD j 0) s s.heap := ⟨scr, hcb, hof, hkn, hsz, hval⟩
    have K : W p l e room_1 s m #[Value.ref b] below meth c s₁.heap [] 0 0 (lw_Z below #[Value.ref b] s) (entryFrame m ([Value.ref b] : List Value).toArray 4) := by
      rw [hh0]
      exact whole_start l hbd ⟨B.exec, B.bytes, B.returns, hml, hown, hts, hX, hbl, B.notSynchronized, hgv⟩
    obtain ⟨t, a1, o, b1, b2, b3⟩ := K s₁ rfl X₀
    exact ⟨t, o, a1, b1, b2, b3⟩
theorem lw_pre_spec {args : Array Value} {s : State} (h : (Jvm.Cond.and given_1 narrow_1).before args s = true) (hr : rest_1_c.before args s = true) : ∃ (b : Addr) (xs : List Int32), lw_P b xs args s := by
  have hs := flat_of_before _ h
  have hq := flat_of_before _ hr
  have hc : (Cond.count 1).before args s = true := hs _ (by decide +kernel)
  have harr : (Cond.arrayOf (.arg 0) .int).before args s = true := hs _ (by decide +kernel)
  have hle : (Cond.le (.length (.arg 0)) (.int 1539)).before args s = true := hs _ (by decide +kernel)
  have hlen : (Cond.isInt (.length (.arg 0))).before args s = true := hq _ (by decide +kernel)
  have hall : (Cond.all (.arg 0) (.isInt (.elem (.arg 0) (.index 0)))).before args s = true := hq _ (by decide +kernel)
  obtain ⟨b, xs, hb, hx⟩ := State.ints_of_pre rfl harr hlen hall
  have hsm : xs.length < 2 ^ 31 := hx.choose_spec.2.2.2
  have hev : (Term.length (.arg 0)).eval args s none [] s = some (.int xs.length.toInt32) := hx.length_eval hb
  have hv := Cond.le_ints hev (show (Term.int 1539).eval args s none [] s = some (.int 1539) from rfl)
  have hd : xs.length.toInt32 ≤ 1539 := by
    simpa [Cond.before, Cond.holds, hv] using hle
  have hN : xs.length ≤ 1539 := (Int32.ofNat_le_ofNat hsm (by decide)).mp (show Int32.ofNat xs.length ≤ Int32.ofNat 1539 from hd)
  exact ⟨b, xs, Cond.one_arg hc (show args[0]? = some (.ref b) from hb), hx, hN, h⟩
theorem lw_comes (l : Launch) : Comes l x (Jvm.Cond.code x code maxLocals ret :: tables_1) room_1 (fun tb e args s => Calls_1 tb e args s ∧ rest_1 tb e args s ∧ Pre_1 tb e args s)
    (fun _ _ args s o t => lw_Q args s o t) := by
  intro p e ha hc hk s m args below hf hfit hheap happ hpre
  obtain ⟨b, xs, hP⟩ := lw_pre_spec hpre.2.2 hpre.2.1
  obtain ⟨k, o, h1, h2, h3, hQ⟩ := lw_walk l b xs p e ha hc hk s m args below hf ((Spec.applies_iff_loose hf).mp happ).1 hP trivial
  exact ⟨k, o, h1, h2, h3, hQ⟩
theorem lw_frame {s t : State} {o : Outcome} {args : Array Value} (h : Framed s o t [] 600000 7302249) :
    Framed s o t (fieldLocs frame_1_writes args s ++ arrayLocs frame_1_arrays args s ++ staticLocs frame_1_statics s) 600000 7302249 := h
theorem lw_limb (L : Cond) (hL : ∀ (args : Array Value) (s t : State), L.after args s (.returned (some (.int 1))) t = true) :
    ArmFor flags0 classFile x code maxLocals ret World_1 tables_1 room_1 Calls_1 rest_1 Pre_1
      (fun tb e a s o t => postC L tb e a s o t ∧ Framed s o t (fieldLocs frame_1_writes a s ++ arrayLocs frame_1_arrays a s ++ staticLocs frame_1_statics s) 600000 7302249) := by
  intro l _ _ _ p e ha hc hk s m args below hf hfit hheap happ hpre
  obtain ⟨k, o, h1, h2, h3, rfl, hF⟩ := lw_comes l p e ha hc hk s m args below hf hfit hheap happ hpre
  exact ⟨k, _, h1, h2, h3, hL args s _, lw_frame hF⟩
theorem i_vc : Claimed_1_1 ∧ Claimed_1_2 := ⟨lw_limb limb_1_1 (fun args s t => by simp [limb_1_1, Cond.after, Cond.holds, Cond.value]), lw_limb limb_1_2 (fun args s t => Cond.after_iff.mpr (by
  first | (rw [show limb_1_2 = Cond.eq .result (.int 1) from rfl, Cond.eq_ints (x := 1) (y := 1) rfl rfl]; simp; done) | (simp [limb_1_2, Cond.value, Term.eval]; done)))⟩
