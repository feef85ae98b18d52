/-! The examples: a pool of them, each an object with three arrays. -/
abbrev hq_Ex : Type := Nat × Nat × Nat × Nat × (Nat → Int32) × (Nat → Int32) × (Nat → Int32) × Nat × Bool × Int32 × Int32
abbrev hq_Ex.x (e : hq_Ex) : Nat := e.1
abbrev hq_Ex.xa (e : hq_Ex) : Nat := e.2.1
abbrev hq_Ex.xb (e : hq_Ex) : Nat := e.2.2.1
abbrev hq_Ex.xc (e : hq_Ex) : Nat := e.2.2.2.1
abbrev hq_Ex.fh (e : hq_Ex) : Nat → Int32 := e.2.2.2.2.1
abbrev hq_Ex.fv (e : hq_Ex) : Nat → Int32 := e.2.2.2.2.2.1
abbrev hq_Ex.fl (e : hq_Ex) : Nat → Int32 := e.2.2.2.2.2.2.1
abbrev hq_Ex.k (e : hq_Ex) : Nat := e.2.2.2.2.2.2.2.1
abbrev hq_Ex.lab (e : hq_Ex) : Bool := e.2.2.2.2.2.2.2.2.1
abbrev hq_Ex.lb (e : hq_Ex) : Int32 := e.2.2.2.2.2.2.2.2.2.1
abbrev hq_Ex.im (e : hq_Ex) : Int32 := e.2.2.2.2.2.2.2.2.2.2
def hq_exc (G : Nat → ClassId) (e : hq_Ex) : va_W := [(e.x, .inr (1, [.ref e.xa, .ref e.xb, .ref e.xc, .int (nI e.k), .int (hq_z e.lab), .int e.lb, .int e.im])), (e.xa, .inl (G 0, 12, .inl e.fh)), (e.xb, .inl (G 0, 12, .inl e.fv)), (e.xc, .inl (G 2, 12, .inl e.fl))]
def hq_pool (G : Nat → ClassId) (ex : Nat → hq_Ex) (is : List Nat) : va_W := is.flatMap (fun j => hq_exc G (ex j))
section HQPOOL
variable {G : Nat → ClassId} {ex ex' : Nat → hq_Ex} {is : List Nat} {j : Nat}
theorem hq_pool_at (hj : j ∈ is) : (hq_pool G ex is).Perm (hq_exc G (ex j) ++ hq_pool G ex (is.erase j)) := (List.perm_cons_erase hj).flatMap_right _
theorem hq_pool_co : ∀ l : List Nat, (∀ i ∈ l, ex i = ex' i) → hq_pool G ex l = hq_pool G ex' l := by
  intro l
  induction l with
  | nil => intro _; rfl
  | cons a l ih =>
    intro h
    show hq_exc G (ex a) ++ hq_pool G ex l = hq_exc G (ex' a) ++ hq_pool G ex' l
    rw [h a List.mem_cons_self, ih (fun i hi => h i (List.mem_cons_of_mem _ hi))]
theorem hq_pool_off (hn : is.Nodup) (h : ∀ i, i ≠ j → ex i = ex' i) : hq_pool G ex (is.erase j) = hq_pool G ex' (is.erase j) :=
  hq_pool_co _ (fun i hi => h i ((List.Nodup.mem_erase_iff hn).mp hi).1)
/-- the pool with another example at j -/
def hq_exu (ex : Nat → hq_Ex) (j : Nat) (e : hq_Ex) : Nat → hq_Ex := fun i => if i = j then e else ex i
theorem hq_exu_at {e : hq_Ex} : hq_exu ex j e j = e := by unfold hq_exu; rw [if_pos rfl]
theorem hq_exu_ne {e : hq_Ex} {i : Nat} (h : ¬ i = j) : hq_exu ex j e i = ex i := by unfold hq_exu; rw [if_neg h]
theorem hq_pool_put {e : hq_Ex} (hn : is.Nodup) (hj : j ∈ is) : (hq_pool G (hq_exu ex j e) is).Perm (hq_exc G e ++ hq_pool G ex (is.erase j)) := by
  have h := hq_pool_at (G := G) (ex := hq_exu ex j e) hj
  rw [hq_exu_at, hq_pool_off (ex' := ex) hn (fun i hi => hq_exu_ne hi)] at h
  exact h
/-- one more at the end -/
theorem hq_pool_new {e : hq_Ex} {q : Nat} : hq_pool G (hq_exu ex q e) (List.range (q + 1)) = hq_pool G ex (List.range q) ++ hq_exc G e := by
  have e1 : hq_pool G (hq_exu ex q e) (List.range q) = hq_pool G ex (List.range q) := hq_pool_co _ (fun i hi => hq_exu_ne (Nat.ne_of_lt (List.mem_range.mp hi)))
  rw [List.range_succ]
  unfold hq_pool at e1 ⊢
  rw [List.flatMap_append, e1, List.flatMap_singleton, hq_exu_at]
theorem hq_pool_grow {e : hq_Ex} {q : Nat} : (hq_pool G (hq_exu ex q e) (List.range (q + 1))).Perm (hq_exc G e ++ hq_pool G ex (List.range q)) := by
  rw [hq_pool_new]
  exact List.perm_append_comm
/-- two examples changed places -/
theorem hq_pool_two {j i : Nat} (hn : is.Nodup) (hj : j ∈ is) (hi : i ∈ is) (hne : ¬ i = j) : (hq_pool G ex is).Perm (hq_exc G (ex j) ++ (hq_exc G (ex i) ++ hq_pool G ex ((is.erase j).erase i))) :=
  (hq_pool_at hj).trans (List.Perm.append_left _ (hq_pool_at ((List.Nodup.mem_erase_iff hn).mpr ⟨hne, hi⟩)))
theorem hq_open {w1 w2 e4 rest Z : va_W} (h : w2.Perm (e4 ++ rest)) : (w1 ++ (w2 ++ Z)).Perm (w1 ++ (e4 ++ (rest ++ Z))) := by
  have h2 := h.append_right Z
  rw [List.append_assoc] at h2
  exact h2.append_left w1
end HQPOOL
/-! The law: where it stands, its script, two calls of another start. -/
def hq_LC (p : Program) (s : State) (m : MethodId) (meth : Method) (c : Code) (args : Array Value) (D : va_G) (G : Nat → ClassId) (A : Nat → Prop) (bs L : Nat) (xs : Nat → Int32) : Prop :=
  p.tables.exec = Jvm.exec ∧ c.code = code ∧ c.maxLocals = 4 ∧ s.vm.findClass "HashedLearnerLaw" = some m.cls ∧ (∀ x ∈ hq_W, x.before args s = true) ∧ (∀ q, s.heap.size ≤ q → A q) ∧ va_K D hq_cl (hq_tys G) s ∧ (∀ x ∈ hq_N, va_Nw x s) ∧ va_X bs L xs s s.heap ∧ bs < s.heap.size ∧ ¬ A bs ∧ hq_over s
def hq_PreX (D : va_G) (G : Nat → ClassId) (A : Nat → Prop) (bs L : Nat) (xs : Nat → Int32) (av : List Value) (w : va_W) : Array Value → State → Prop := fun a U => hq_Pre D G A av w a U ∧ va_X bs L xs U U.heap ∧ bs < U.heap.size ∧ ¬ A bs
def hq_MIx {α : Type} (l : Launch) (D : va_G) (G : Nat → ClassId) (A : Nat → Prop) (bs L : Nat) (xs : Nat → Int32) (y : MethodName) (cc : ByteArray) (n : Nat) (ty : FieldType) (k mc ms : Nat) (av : List Value) (w : va_W) (post : Int32 → α → Prop) (w' : α → va_W) : Prop :=
  Met l y (.code y cc n (some ty) :: hq_W) (hq_rm k mc ms) (hq_PreX D G A bs L xs av w) (va_Qi post (hq_B D A w') A) mc ms A
theorem hq_bIx {l : Launch} {α : Type} {y : MethodName} {k mc ms n bs L : Nat} {xs : Nat → Int32} {cc : ByteArray} {ty : FieldType} {av : List Value} {D : va_G} {G : Nat → ClassId} {A : Nat → Prop} {w : va_W} {w' : α → va_W} {post : Int32 → α → Prop} (hy : plainName y.cls = true) (hav : (lg_sl av).length ≤ n) (hn : ∀ r u, post r u → narrow ty (.int r) = .int r)
    (body : ∀ (p : Program) (e : Env) (s : State) (m : MethodId) (args : Array Value) (below : List Frame) (meth : Method) (c : Code) (Q : State → Prop), p.tables.exec = Jvm.exec → c.code = cc → c.maxLocals = n → (∀ x ∈ hq_W, x.before args s = true) → s.vm.findClass y.cls = some m.cls → (∀ q, s.heap.size ≤ q → A q) → va_K D hq_cl (hq_tys G) s → (∀ x ∈ hq_N, va_Nw x s) → va_X bs L xs s s.heap → bs < s.heap.size → ¬ A bs →
      (∀ (v : Int32) (u : α) (H : Heap) (locs : List Loc) (pc : Nat) (ls : Array Slot), decode cc pc = .ok (.ireturn, 1) → post v u → va_P D hq_cl (w' u) H → va_D A (w' u) → va_S A s.heap H locs → W p l e (hq_rm k mc ms) s m args below meth c H locs mc ms Q (F0 m pc ls [.int v])) →
      ∀ (ls : Array Slot) (H : Heap) (locs : List Loc), lv_has ls n (lv_args 0 av) → va_P D hq_cl w H → va_D A w → va_S A s.heap H locs → W p l e (hq_rm k mc ms) s m args below meth c H locs 0 0 Q (F0 m 0 ls [])) :
    hq_MIx l D G A bs L xs y cc n ty k mc ms av w post w' := by
  refine Met.ofW (cc := cc) (maxL := n) (ret := some ty) hy rfl ?_
  intro p e s m args below meth c s₁ B hml hv
  obtain ⟨⟨rfl, hA, hK, hN, hP, hD⟩, hX, hbl, hbA⟩ := hv
  have hlocks := B.notSynchronized
  have hts := atoms_spec (ws := Jvm.Cond.code y cc n (some ty) :: hq_W) B.pre
  rw [lg_entry_eq]
  exact body p e s m _ below meth c _ B.exec B.bytes hml (fun x hx => hts x (List.mem_cons_of_mem _ hx)) (findClass_of_methodNamed B.named) hA hK hN hX hbl hbA
    (fun v u H locs pc ls hd hp hP1 hD1 hS => W.zret B.exec B.bytes B.returns (hn v u hp) (fun t ht _ => ⟨⟨v, u, rfl, hp, by rw [ht]; exact hP1, hD1⟩, hS.F ht⟩) hS.2.2 hd)
    _ _ _ (lv_entry av hav) hP hD va_S.rf
section HQLAW
variable {D : va_G} {G : Nat → ClassId} {A : Nat → Prop} {w : va_W} {s : State} {H : Heap} {locs : List Loc} {bs L : Nat} {xs : Nat → Int32}
theorem hq_blindX {av : List Value} : FrameBlind (hq_PreX D G A bs L xs av w) := by
  intro a U g mk h
  exact ⟨hq_blind a U g mk h.1, va_X.moved (u := U) (U := U.calling g mk a) (Vm.Alike.refl U.vm) h.2.1, h.2.2.1, h.2.2.2⟩
theorem hq_preSX {As : List Value} (hA : ∀ q, s.heap.size ≤ q → A q) (hK : va_K D hq_cl (hq_tys G) s) (hN : ∀ x ∈ hq_N, va_Nw x s) (hS : va_S A s.heap H locs) (hP : va_P D hq_cl w H) (hD : va_D A w) (hX : va_X bs L xs s s.heap) (hbl : bs < s.heap.size) (hbA : ¬ A bs) : PreS s H (hq_PreX D G A bs L xs As w) As :=
  ⟨hq_blindX, fun U hU hW => ⟨⟨rfl, hq_at hA hK hN hS hP hD U hU hW⟩, by rw [hU]; exact (hX.kept (hS.2.1 bs hbl hbA)).moved hW.alike, by rw [hU]; exact Nat.lt_of_lt_of_le hbl hS.1, hbA⟩⟩
theorem hq_blindO {av : List Value} : FrameBlind (hq_PreO D G A av w) := by
  intro a U g mk h
  exact ⟨hq_blind a U g mk h.1, va_AO.moved (u := U) (U := U.calling g mk a) (Vm.Alike.refl U.vm) h.2.1, va_AO.moved (u := U) (U := U.calling g mk a) (Vm.Alike.refl U.vm) h.2.2⟩
theorem hq_preSO {As : List Value} (hA : ∀ q, s.heap.size ≤ q → A q) (hK : va_K D hq_cl (hq_tys G) s) (hN : ∀ x ∈ hq_N, va_Nw x s) (hS : va_S A s.heap H locs) (hP : va_P D hq_cl w H) (hD : va_D A w) (hO : hq_over s) : PreS s H (hq_PreO D G A As w) As :=
  ⟨hq_blindO, fun U hU hW => ⟨⟨rfl, hq_at hA hK hN hS hP hD U hU hW⟩, va_AO.moved hW.alike hO.1, va_AO.moved hW.alike hO.2⟩⟩
end HQLAW
section HQLAW2
variable {p : Program} {l : Launch} {e : Env} {R : Room} {s : State} {m : MethodId} {args : Array Value} {below : List Frame} {meth : Method} {c : Code} {H : Heap} {locs : List Loc} {cells slots : Nat} {Q : State → Prop}
variable {pc : Nat} {ls : Array Slot} {rest st0 : List Value} {a : Array Value} {A : Nat → Prop} {H0 : Heap} {mc ms : Nat} {D : va_G} {G : Nat → ClassId} {cc : ByteArray} {ws w : va_W}
variable {y : MethodName} {bytes : ByteArray} {maxL nL n index k b : Nat} {ret : Option FieldType} {Qc : Array Value → State → Outcome → State → Prop} {own host : String} {As : List Value} {bs L : Nat} {xs : Nat → Int32}
theorem hq_rSx (hx : p.tables.exec = Jvm.exec) (hb : c.code = cc) (hml : c.maxLocals = nL) (hown : s.vm.findClass own = some m.cls) (hts : ∀ w ∈ hq_W, w.before args s = true)
    (hM : Met l y (.code y bytes maxL ret :: hq_W) (hq_rm k mc ms) (hq_PreX D G A bs L xs As w) Qc mc ms A) (hY : hq_YS y bytes maxL ret n) (hL : Jvm.Cond.methodLink own index y ∈ hq_W)
    (hA : ∀ q, s.heap.size ≤ q → A q) (hK : va_K D hq_cl (hq_tys G) s) (hN : ∀ x ∈ hq_N, va_Nw x s) (hS : va_S A s.heap H locs) (hP : va_P D hq_cl w H) (hD : va_D A w) (hX : va_X bs L xs s s.heap) (hbl : bs < s.heap.size) (hbA : ¬ A bs)
    (hn : As.length = n) (hsz : ls.size = nL) (hst : st0 = As.reverse ++ rest) (hW : (rest.map fun v => v.category).sum ≤ 8) (hdg : decode cc pc = .ok (.invokestatic index, 3)) (hf : cells + mc ≤ R.cells ∧ slots + ms ≤ R.slots) (hR : k + 1 ≤ R.frames ∧ 8 + (maxL + 11) + 40 * k ≤ R.locals) :
    va_Run p l e R s m args below meth c H locs cells slots mc ms (F0 m pc ls st0) rest (Qc As.toArray) A :=
  va_runS (n := n) (As := As) (rest := rest) ⟨hx, hb, hml, hown, hts⟩ hM ⟨callB_of n hts (hq_gd hY.2.2.1) rfl rfl rfl (hts _ hY.2.1) (hts _ hL) hY.2.2.2 hR, hts _ hY.1⟩ (hq_preSX hA hK hN hS hP hD hX hbl hbA) rfl hn hsz hst (lv_room hW) hdg hf
theorem hq_rIo (hx : p.tables.exec = Jvm.exec) (hb : c.code = cc) (hml : c.maxLocals = nL) (hown : s.vm.findClass own = some m.cls) (hts : ∀ w ∈ hq_W, w.before args s = true)
    (hM : Met l y (.code y bytes maxL none :: hq_W) (hq_rm k mc ms) (hq_PreO D G A (.ref b :: As) w) Qc mc ms A) (hY : hq_YI y bytes maxL n) (hL : Jvm.Cond.methodLink own index y ∈ hq_W)
    (hA : ∀ q, s.heap.size ≤ q → A q) (hK : va_K D hq_cl (hq_tys G) s) (hN : ∀ x ∈ hq_N, va_Nw x s) (hS : va_S A s.heap H locs) (hP : va_P D hq_cl w H) (hD : va_D A w) (hO : hq_over s)
    (hn : As.length = n) (hsz : ls.size = nL) (hst : st0 = As.reverse ++ .ref b :: rest) (hW : (rest.map fun v => v.category).sum ≤ 8) (hdg : decode cc pc = .ok (.invokespecial index, 3)) (hf : cells + mc ≤ R.cells ∧ slots + ms ≤ R.slots) (hR : k + 1 ≤ R.frames ∧ 8 + (maxL + 11) + 40 * k ≤ R.locals) :
    va_Run p l e R s m args below meth c H locs cells slots mc ms (F0 m pc ls st0) rest (Qc (Value.ref b :: As).toArray) A :=
  va_runI (n := n) (As := As) (rest := rest) ⟨hx, hb, hml, hown, hts⟩ hM ⟨callB_of n hts (hq_gd hY.2.2.2.1) rfl rfl rfl (hts _ hY.2.2.1) (hts _ hL) hY.2.2.2.2 hR, hY.2.1, hts _ hY.1⟩ (hq_preSO hA hK hN hS hP hD hO) rfl hn hsz hst (lv_room hW) hdg hf
theorem hq_sld {j : Nat} (hexec : p.tables.exec = Jvm.exec) (hb : c.code = cc) (hX : va_X bs L xs s H0) (hbl : bs < H0.size) (hbA : ¬ A bs) (hS : va_S A H0 H locs) (hj : j < L) (hL : L < 2 ^ 31) (hdg : decode cc pc = .ok (.iaload, 1))
    (kk : W p l e R s m args below meth c H locs cells slots Q (F0 m (pc + 1) ls (.int (xs j) :: rest))) : W p l e R s m args below meth c H locs cells slots Q (F0 m pc ls (.int (nI j) :: .ref bs :: rest)) :=
  va_sld hexec hb hX hbl hbA hS (vp_in_nI hj hL) hdg (by rw [nI_clamp (by omega)]; exact kk)
end HQLAW2
/-! Constructing and learning over the pool. -/
section HQPOOL2
variable {ex : Nat → hq_Ex} {e : hq_Ex} {fr : Nat → Option Nat} {o k i : Nat}
theorem hq_up_ex {x : Nat} (he : e.x = x) (h : ∀ j, j < k → fr j = some (ex (o + j)).x) : ∀ j, j < k + 1 → va_up fr k (some x) j = some (hq_exu ex (o + k) e (o + j)).x := by
  intro j hj
  by_cases hjk : j = k
  · rw [hjk, va_up_self, hq_exu_at, he]
  · rw [va_up_ne _ _ hjk, hq_exu_ne (by omega)]
    exact h j (by omega)
theorem hq_up_keep (hi : k ≤ i) (h : ∀ j, j < k → fr j = some (ex (0 + j)).x) : ∀ j, j < k → fr j = some (hq_exu ex i e (0 + j)).x := by
  intro j hj
  rw [hq_exu_ne (by omega)]
  exact h j hj
theorem hq_up_k (he : e.k = 0) (h : ∀ j, j < o + k → (ex j).k = 0) : ∀ j, j < o + (k + 1) → (hq_exu ex (o + k) e j).k = 0 := by
  intro j hj
  by_cases hjk : j = o + k
  · rw [hjk, hq_exu_at, he]
  · rw [hq_exu_ne hjk]
    exact h j (by omega)
end HQPOOL2
def hq_ex0 : Nat → hq_Ex := fun _ => ⟨0, 0, 0, 0, fun _ => 0, fun _ => 0, fun _ => 0, 0, false, 0, 1⟩
/-- all stored examples taught, one after the other -/
def hq_pasH (ru : Int32) (n : Nat) (kd : Int32) (cl cr : Nat → Int32) (nc : Nat) (ex : Nat → hq_Ex) (mk : Nat → Nat) : Nat → Nat → (Nat → Int32) × (Nat → Int64) × (Nat → Int64) → (Nat → Int32) × (Nat → Int64) × (Nat → Int64)
  | _, 0, S => S
  | k, m + 1, S => hq_pasH ru n kd cl cr nc ex mk (k + 1) m (hq_tch ru n kd (ex (4 + k)).lb (hq_tms (ex (4 + k)).fh (ex (4 + k)).fv (ex (4 + k)).fl (ex (4 + k)).k cl cr nc) (mk k) S)
section HQPASS
variable {ru : Int32} {n : Nat} {kd : Int32} {cl cr : Nat → Int32} {nc : Nat} {ex : Nat → hq_Ex} {mk : Nat → Nat} {k j : Nat} {S : (Nat → Int32) × (Nat → Int64) × (Nat → Int64)}
theorem hq_pasH_go (h : k < j) : hq_pasH ru n kd cl cr nc ex mk k (j - k) S = hq_pasH ru n kd cl cr nc ex mk (k + 1) (j - (k + 1)) (hq_tch ru n kd (ex (4 + k)).lb (hq_tms (ex (4 + k)).fh (ex (4 + k)).fv (ex (4 + k)).fl (ex (4 + k)).k cl cr nc) (mk k) S) := by
  rw [show j - k = (j - (k + 1)) + 1 by omega]
  rfl
theorem hq_pasH_end (h : ¬ k < j) : hq_pasH ru n kd cl cr nc ex mk k (j - k) S = S := by
  rw [show j - k = 0 by omega]
  rfl
end HQPASS
