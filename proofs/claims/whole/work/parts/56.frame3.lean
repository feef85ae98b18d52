/-! Making objects and arrays: the new cell comes first. -/
section HQF3
variable {p : Program} {l : Launch} {e : Env} {R : Room} {s : State} {m : MethodId} {args : Array Value} {below : List Frame} {meth : Method} {c : Code} {H : Heap} {locs : List Loc} {cells slots : Nat} {Q : State → Prop}
variable {pc : Nat} {ls : Array Slot} {rest : List Value} {A : Nat → Prop} {H0 : Heap} {D : va_G} {G : Nat → ClassId} {cc : ByteArray} {ws : va_W}
theorem hq_snoc (x : Nat × va_E) (w : va_W) : (w ++ [x]).Perm (x :: w) := List.perm_append_comm
theorem hq_sameA {U : State} {a b : ClassId} {ty : FieldType} (ha : va_RA U a ty) (hb : va_RA U b ty) : a = b := by
  cases ty with
  | object C =>
    obtain ⟨_, _, _, _, _, h1⟩ := ha
    obtain ⟨_, _, _, _, _, h2⟩ := hb
    exact Option.some.inj (h1.symm.trans h2)
  | _ =>
    have h1 : U.vm.findClass _ = some a := ha
    have h2 : U.vm.findClass _ = some b := hb
    exact Option.some.inj (h1.symm.trans h2)
theorem hq_newa (hexec : p.tables.exec = Jvm.exec) (hb : c.code = cc) {atype : ArrayType} (harr : (Jvm.Cond.arrayClass (newarray.typeOf atype)).before args s = true) {ty : FieldType} (hty : newarray.typeOf atype = ty) (hK : va_K D hq_cl (hq_tys G) s) (hP : va_P D hq_cl ws H) (hD : va_D A ws) (hS : va_S A H0 H locs) (hA : ∀ q, H0.size ≤ q → A q) (t0 : Nat) {g : ClassId} (ht : (hq_tys G)[t0]? = some (g, ty))
    {n : Nat} {a0 : vp_A} (ha : ∀ cA : ClassId, vp_cell cA a0 = arrV cA n (fun _ => defaultValue ty)) (hn : n < 2 ^ 24) (hbytes : n * componentBytes ty ≤ 536870912) (hcells : cells + 1 ≤ R.cells) (hslots : slots + n ≤ R.slots) (hdg : decode cc pc = .ok (.newarray atype, 2))
    (kk : ∀ (q : Nat) (H1 : Heap), va_P D hq_cl ((q, .inl (g, a0)) :: ws) H1 → va_D A ((q, .inl (g, a0)) :: ws) → va_S A H0 H1 locs →
      W p l e R s m args below meth c H1 locs (cells + 1) (slots + n) Q (F0 m (pc + 2) ls (.ref q :: rest))) : W p l e R s m args below meth c H locs cells slots Q (F0 m pc ls (.int (nI n) :: rest)) :=
  va_newa hexec hb harr hty hK hP hD hS hA ha (nI_pos (by omega)) (nI_clamp (by omega)) hbytes hcells hslots hdg (fun q cA H1 hK1 hP1 hD1 hS1 => by
    have hl : (hq_tys G ++ [(cA, ty)])[(hq_tys G).length]? = some (cA, ty) := by
      rw [List.getElem?_append_right (Nat.le_refl _), Nat.sub_self]
      rfl
    have e1 : cA = g := hq_sameA (hK1.2 _ _ hl).2 (hK.2 _ _ ht).2
    subst e1
    exact kk q H1 (hq_P_perm (hq_snoc _ _) hP1) (hq_D_perm (hq_snoc _ _) hD1) hS1)
theorem hq_newq (hexec : p.tables.exec = Jvm.exec) (hb : c.code = cc) {own C : String} {index : Nat} (hown : s.vm.findClass own = some m.cls) (hclink : (Jvm.Cond.classLink own index C).before args s = true) (hover : va_AO C s) (hK : va_K D hq_cl (hq_tys G) s) (hP : va_P D hq_cl ws H) (hD : va_D A ws) (hS : va_S A H0 H locs) (hA : ∀ q, H0.size ≤ q → A q) (t0 : Nat) {g : ClassId} (ht : (hq_tys G)[t0]? = some (g, .object C))
    {n : Nat} (hn : n < 2 ^ 24) (hcells : cells + 1 ≤ R.cells) (hslots : slots + n ≤ R.slots) (hdg : decode cc pc = .ok (.anewarray index, 3))
    (kk : ∀ (q : Nat) (H1 : Heap), va_P D hq_cl ((q, .inl (g, n, .inr (.inr (.inr (.inr (fun _ => none)))))) :: ws) H1 → va_D A ((q, .inl (g, n, .inr (.inr (.inr (.inr (fun _ => none)))))) :: ws) → va_S A H0 H1 locs →
      W p l e R s m args below meth c H1 locs (cells + 1) (slots + n) Q (F0 m (pc + 3) ls (.ref q :: rest))) : W p l e R s m args below meth c H locs cells slots Q (F0 m pc ls (.int (nI n) :: rest)) :=
  va_newq hexec hb hown hclink hover hK hP hD hS hA (nI_pos (by omega)) (nI_clamp (by omega)) (by omega) hcells hslots hdg (fun q cA H1 hK1 hP1 hD1 hS1 => by
    have hl : (hq_tys G ++ [(cA, .object C)])[(hq_tys G).length]? = some (cA, .object C) := by
      rw [List.getElem?_append_right (Nat.le_refl _), Nat.sub_self]
      rfl
    have e1 : cA = g := hq_sameA (hK1.2 _ _ hl).2 (hK.2 _ _ ht).2
    subst e1
    exact kk q H1 (hq_P_perm (hq_snoc _ _) hP1) (hq_D_perm (hq_snoc _ _) hD1) hS1)
theorem hq_new (hexec : p.tables.exec = Jvm.exec) (hb : c.code = cc) {own C : String} {T : u_T} {N ci index : Nat} (hts : ∀ w ∈ hq_W, w.before args s = true) (hin : ∀ w ∈ u_ws C T N, w ∈ hq_W) (ty : Nat → FieldType) (hty : ∀ k, k < N → parseFieldDescriptor (T k).2.2.1 = some (ty k)) (hown : s.vm.findClass own = some m.cls) (hcl : (Jvm.Cond.classLink own index C).before args s = true) (hinst : (Jvm.Cond.instantiable C N).before args s = true) (hini : (Jvm.Cond.initialized C).before args s = true)
    (hK : va_K D hq_cl (hq_tys G) s) (hP : va_P D hq_cl ws H) (hD : va_D A ws) (hS : va_S A H0 H locs) (hA : ∀ q, H0.size ≤ q → A q) (hc : hq_cl[ci]? = some (C, T, N)) {fs : List Value} (hfs : ∀ j, j < N → defaultValue (ty j) = vp_V fs j) (hcells : cells + 1 ≤ R.cells) (hslots : slots + N ≤ R.slots) (hdg : decode cc pc = .ok (.new index, 3))
    (kk : ∀ (q : Nat) (H1 : Heap), va_P D hq_cl ((q, .inr (ci, fs)) :: ws) H1 → va_D A ((q, .inr (ci, fs)) :: ws) → va_S A H0 H1 locs →
      W p l e R s m args below meth c H1 locs (cells + 1) (slots + N) Q (F0 m (pc + 3) ls (.ref q :: rest))) : W p l e R s m args below meth c H locs cells slots Q (F0 m pc ls rest) :=
  va_new hexec hb hts hin ty hty hown hcl hinst hini hK hP hD hS hA hc hfs hcells hslots hdg (fun q H1 hP1 hD1 hS1 => kk q H1 (hq_P_perm (hq_snoc _ _) hP1) (hq_D_perm (hq_snoc _ _) hD1) hS1)
end HQF3
/-! The constructor that makes arrays of objects asks for two words more. -/
def hq_over (U : State) : Prop := va_AO "HashedLearner$Example" U ∧ va_AO "HashedLearner$Table" U
def hq_PreO (D : va_G) (G : Nat → ClassId) (A : Nat → Prop) (av : List Value) (w : va_W) : Array Value → State → Prop := fun a U => hq_Pre D G A av w a U ∧ hq_over U
def hq_MVo {α : Type} (l : Launch) (D : va_G) (G : Nat → ClassId) (A : Nat → Prop) (y : MethodName) (cc : ByteArray) (n : Nat) (k mc ms : Nat) (av : List Value) (w : va_W) (post : α → Prop) (w' : α → va_W) : Prop :=
  Met l y (.code y cc n none :: hq_W) (hq_rm k mc ms) (hq_PreO D G A av w) (va_Qv post (hq_B D A w') A) mc ms A
theorem hq_bVo {l : Launch} {α : Type} {y : MethodName} {k mc ms n : Nat} {cc : ByteArray} {av : List Value} {D : va_G} {G : Nat → ClassId} {A : Nat → Prop} {w : va_W} {w' : α → va_W} {post : α → Prop} (hy : plainName y.cls = true) (hav : (lg_sl av).length ≤ n)
    (body : ∀ (p : Program) (e : Env) (s : State) (m : MethodId) (args : Array Value) (below : List Frame) (meth : Method) (c : Code) (Q : State → Prop), p.tables.exec = Jvm.exec → c.code = cc → c.maxLocals = n → (∀ x ∈ hq_W, x.before args s = true) → s.vm.findClass y.cls = some m.cls → (∀ q, s.heap.size ≤ q → A q) → va_K D hq_cl (hq_tys G) s → (∀ x ∈ hq_N, va_Nw x s) → meth.name = y.name → hq_over s →
      (∀ (u : α) (H : Heap) (locs : List Loc) (pc : Nat) (ls : Array Slot), decode cc pc = .ok (.return_, 1) → post u → va_P D hq_cl (w' u) H → va_D A (w' u) → va_S A s.heap H locs → W p l e (hq_rm k mc ms) s m args below meth c H locs mc ms Q (F0 m pc ls [])) →
      ∀ (ls : Array Slot) (H : Heap) (locs : List Loc), lv_has ls n (lv_args 0 av) → va_P D hq_cl w H → va_D A w → va_S A s.heap H locs → W p l e (hq_rm k mc ms) s m args below meth c H locs 0 0 Q (F0 m 0 ls [])) :
    hq_MVo l D G A y cc n k mc ms av w post w' := by
  refine Met.ofW (cc := cc) (maxL := n) (ret := none) hy rfl ?_
  intro p e s m args below meth c s₁ B hml hv
  obtain ⟨⟨rfl, hA, hK, hN, hP, hD⟩, hO⟩ := hv
  have hlocks := B.notSynchronized
  have hts := atoms_spec (ws := Jvm.Cond.code y cc n none :: hq_W) B.pre
  rw [lg_entry_eq]
  exact body p e s m _ below meth c _ B.exec B.bytes hml (fun x hx => hts x (List.mem_cons_of_mem _ hx)) (findClass_of_methodNamed B.named) hA hK hN (name_of_methodNamed B.named B.method).1 hO
    (fun u H locs pc ls hd hp hP1 hD1 hS => W.vret B.exec B.bytes B.returns (fun t ht _ => ⟨⟨u, rfl, hp, by rw [ht]; exact hP1, hD1⟩, hS.F ht⟩) hS.2.2 hd)
    _ _ _ (lv_entry av hav) hP hD va_S.rf
/-! What a constructor makes of its three numbers. -/
def hq_bits (x : Int32) : Int32 := if x < 3 then 4 else if 5 < x then 4 else x
def hq_kind (x : Int32) : Int32 := if x < 0 then 0 else if 2 < x then 0 else x
def hq_rule (x : Int32) : Int32 := if x = 1 then 1 else 0
def hq_slots (x : Int32) : Nat := 2 ^ (hq_bits x).toNatClampNeg
theorem hq_bits_in (x : Int32) : hq_bits x = 3 ∨ hq_bits x = 4 ∨ hq_bits x = 5 := by
  unfold hq_bits
  by_cases h1 : x < 3
  · rw [if_pos h1]; exact Or.inr (Or.inl rfl)
  · rw [if_neg h1]
    by_cases h2 : 5 < x
    · rw [if_pos h2]; exact Or.inr (Or.inl rfl)
    · rw [if_neg h2]
      have a1 : ¬ x.toInt < (3 : Int32).toInt := fun h => h1 (Int32.lt_iff_toInt_lt.mpr h)
      have a2 : ¬ (5 : Int32).toInt < x.toInt := fun h => h2 (Int32.lt_iff_toInt_lt.mpr h)
      have e3 : (3 : Int32).toInt = 3 := by decide
      have e4 : (4 : Int32).toInt = 4 := by decide
      have e5 : (5 : Int32).toInt = 5 := by decide
      rcases (show x.toInt = 3 ∨ x.toInt = 4 ∨ x.toInt = 5 by omega) with h | h | h
      · exact Or.inl (Int32.toInt_inj.mp (by rw [h, e3]))
      · exact Or.inr (Or.inl (Int32.toInt_inj.mp (by rw [h, e4])))
      · exact Or.inr (Or.inr (Int32.toInt_inj.mp (by rw [h, e5])))
theorem hq_slots_eq (x : Int32) : (1 : Int32) <<< ((hq_bits x) &&& 31) = nI (hq_slots x) := by
  unfold hq_slots
  rcases hq_bits_in x with h | h | h <;> rw [h] <;> decide
theorem hq_slots_pow (x : Int32) : hq_pow (hq_slots x) := by
  unfold hq_slots hq_pow
  rcases hq_bits_in x with h | h | h <;> rw [h] <;> decide
