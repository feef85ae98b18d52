/-! One shape for all contracts: a world of cells with a tail of further cells that stays, one set A of the cells that may change, one list of words. -/
def hq_z (b : Bool) : Int32 := if b then 1 else 0
theorem hq_z0 {b : Bool} : hq_z b = 0 ↔ b = false := by cases b <;> decide
theorem hq_zn {b : Bool} : ¬ hq_z b = 0 ↔ b = true := by cases b <;> decide
theorem hq_zt : hq_z true = 1 := rfl
theorem hq_zf : hq_z false = 0 := rfl
theorem hq_znar (b : Bool) : narrow .boolean (.int (hq_z b)) = .int (hq_z b) := by cases b <;> decide
theorem hq_zfit (b : Bool) : fits .boolean (.int (hq_z b)) = true := by cases b <;> decide
theorem hq_zvp (b : Bool) : vp_nar .boolean (hq_z b) = hq_z b := by cases b <;> decide
def hq_rm (k mc ms : Nat) : Room := { frames := k, cells := mc, slots := ms, locals := 40 * k }
def hq_isNest : Jvm.Cond → Bool
  | .fieldLinkNest .. => true
  | .methodLinkNest .. => true
  | _ => false
theorem hq_nestWarm {w : Jvm.Cond} (hw : hq_isNest w = true) {s U : State} (hW : s.WarmedH U.vm) (h : va_Nw w s) : va_Nw w U := by
  cases w <;> first | exact va_Nw.warmF hW h | exact va_Nw.warmM hW h | (exact absurd hw (by simp [hq_isNest]))
theorem hq_nestSame {w : Jvm.Cond} (hw : hq_isNest w = true) {u U : State} (h : u.vm = U.vm) (hz : va_Nw w u) : va_Nw w U := by
  cases w <;> first | exact va_Nw.same rfl h hz | (exact absurd hw (by simp [hq_isNest]))
def hq_W : List Jvm.Cond := lw_tbl.filter goodWord
def hq_N : List Jvm.Cond := tables_1.filter hq_isNest
theorem hq_in (i : Nat) {w : Jvm.Cond} (h : lw_tbl[i]? = some w) (hg : goodWord w = true) : w ∈ hq_W := List.mem_filter.mpr ⟨List.mem_of_getElem? h, hg⟩
theorem hq_inN (i : Nat) {w : Jvm.Cond} (h : tables_1[i]? = some w) (hg : hq_isNest w = true) : w ∈ hq_N := List.mem_filter.mpr ⟨List.mem_of_getElem? h, hg⟩
theorem hq_sub (ps : List Nat) (ws : List Jvm.Cond) (h : (decide (ws = ps.filterMap (fun i => lw_tbl[i]?)) && ws.all goodWord) = true) : ∀ w ∈ ws, w ∈ hq_W := by
  intro w hw
  simp only [Bool.and_eq_true, decide_eq_true_eq] at h
  have hg := List.all_eq_true.mp h.2 w hw
  rw [h.1] at hw
  obtain ⟨i, -, hi⟩ := List.mem_filterMap.mp hw
  exact hq_in i hi hg
theorem hq_Nn {x : Jvm.Cond} (h : x ∈ hq_N) : hq_isNest x = true := (List.mem_filter.mp h).2
theorem hq_gd {y : MethodName} {cc : ByteArray} {n : Nat} {ret : Option FieldType} (h : Jvm.Cond.code y cc n ret ∈ hq_W) : GoodIn hq_W (Jvm.Cond.code y cc n ret :: hq_W) := by
  intro w hw
  rcases List.mem_cons.mp hw with rfl | hw
  · exact ⟨h, Or.inl rfl⟩
  · exact ⟨hw, good_of_word (List.mem_filter.mp hw).2⟩
/-- the array classes -/
def hq_tys (G : Nat → ClassId) : List (ClassId × FieldType) := [(G 0, .int), (G 1, .long), (G 2, .char), (G 3, .boolean), (G 4, .object "HashedLearner$Example"), (G 5, .object "HashedLearner$Table")]
/-- a contract's start -/
def hq_pre (D : va_G) (G : Nat → ClassId) (A : Nat → Prop) (w : va_W) (U : State) : Prop :=
  (∀ q, U.heap.size ≤ q → A q) ∧ va_K D hq_cl (hq_tys G) U ∧ (∀ x ∈ hq_N, va_Nw x U) ∧ va_P D hq_cl w U.heap ∧ va_D A w
/-- its end -/
def hq_B {α : Type} (D : va_G) (A : Nat → Prop) (w' : α → va_W) : α → State → Prop := fun u t => va_P D hq_cl (w' u) t.heap ∧ va_D A (w' u)
abbrev hq_Pre (D : va_G) (G : Nat → ClassId) (A : Nat → Prop) (av : List Value) (w : va_W) : Array Value → State → Prop := va_Pc av (hq_pre D G A w)
def hq_MI {α : Type} (l : Launch) (D : va_G) (G : Nat → ClassId) (A : Nat → Prop) (y : MethodName) (cc : ByteArray) (n : Nat) (ty : FieldType) (k mc ms : Nat) (av : List Value) (w : va_W) (post : Int32 → α → Prop) (w' : α → va_W) : Prop :=
  Met l y (.code y cc n (some ty) :: hq_W) (hq_rm k mc ms) (hq_Pre D G A av w) (va_Qi post (hq_B D A w') A) mc ms A
def hq_ML {α : Type} (l : Launch) (D : va_G) (G : Nat → ClassId) (A : Nat → Prop) (y : MethodName) (cc : ByteArray) (n : Nat) (k mc ms : Nat) (av : List Value) (w : va_W) (post : Int64 → α → Prop) (w' : α → va_W) : Prop :=
  Met l y (.code y cc n (some .long) :: hq_W) (hq_rm k mc ms) (hq_Pre D G A av w) (va_Ql post (hq_B D A w') A) mc ms A
def hq_MV {α : Type} (l : Launch) (D : va_G) (G : Nat → ClassId) (A : Nat → Prop) (y : MethodName) (cc : ByteArray) (n : Nat) (k mc ms : Nat) (av : List Value) (w : va_W) (post : α → Prop) (w' : α → va_W) : Prop :=
  Met l y (.code y cc n none :: hq_W) (hq_rm k mc ms) (hq_Pre D G A av w) (va_Qv post (hq_B D A w') A) mc ms A
/-- the same where the answer is a function of what is there -/
abbrev hq_FI (l : Launch) (D : va_G) (G : Nat → ClassId) (A : Nat → Prop) (y : MethodName) (cc : ByteArray) (n : Nat) (ty : FieldType) (k : Nat) (av : List Value) (w : va_W) (E : Int32) (w' : va_W) : Prop :=
  hq_MI l D G A y cc n ty k 0 0 av w (fun r (_ : Unit) => r = E) (fun _ => w')
abbrev hq_FL (l : Launch) (D : va_G) (G : Nat → ClassId) (A : Nat → Prop) (y : MethodName) (cc : ByteArray) (n : Nat) (k : Nat) (av : List Value) (w : va_W) (E : Int64) (w' : va_W) : Prop :=
  hq_ML l D G A y cc n k 0 0 av w (fun r (_ : Unit) => r = E) (fun _ => w')
abbrev hq_FV (l : Launch) (D : va_G) (G : Nat → ClassId) (A : Nat → Prop) (y : MethodName) (cc : ByteArray) (n : Nat) (k : Nat) (av : List Value) (w : va_W) (w' : va_W) : Prop :=
  hq_MV l D G A y cc n k 0 0 av w (fun (_ : Unit) => True) (fun _ => w')
/-- what the tables say of a method -/
def hq_YV (y : MethodName) (cc : ByteArray) (n : Nat) (ret : Option FieldType) (np : Nat) : Prop :=
  Jvm.Cond.instanceMethod y ∈ hq_W ∧ Jvm.Cond.selects y.cls y y ∈ hq_W ∧ Jvm.Cond.initialized y.cls ∈ hq_W ∧ Jvm.Cond.code y cc n ret ∈ hq_W ∧ (y.cls ≠ "java/lang/invoke/MethodHandle" ∧ y.cls ≠ "java/lang/invoke/VarHandle" ∧ (parseMethodDescriptor y.desc).map (fun d => d.parameters.length) = some np)
def hq_YS (y : MethodName) (cc : ByteArray) (n : Nat) (ret : Option FieldType) (np : Nat) : Prop :=
  Jvm.Cond.static y ∈ hq_W ∧ Jvm.Cond.initialized y.cls ∈ hq_W ∧ Jvm.Cond.code y cc n ret ∈ hq_W ∧ (y.cls ≠ "java/lang/invoke/MethodHandle" ∧ y.cls ≠ "java/lang/invoke/VarHandle" ∧ (parseMethodDescriptor y.desc).map (fun d => d.parameters.length) = some np)
def hq_YI (y : MethodName) (cc : ByteArray) (n : Nat) (np : Nat) : Prop :=
  Jvm.Cond.instanceMethod y ∈ hq_W ∧ y.name = "<init>" ∧ Jvm.Cond.initialized y.cls ∈ hq_W ∧ Jvm.Cond.code y cc n none ∈ hq_W ∧ (y.cls ≠ "java/lang/invoke/MethodHandle" ∧ y.cls ≠ "java/lang/invoke/VarHandle" ∧ (parseMethodDescriptor y.desc).map (fun d => d.parameters.length) = some np)
section HQ1
variable {D : va_G} {G : Nat → ClassId} {A : Nat → Prop} {w : va_W} {s : State} {H : Heap} {locs : List Loc}
theorem hq_blind {av : List Value} : FrameBlind (hq_Pre D G A av w) := by
  intro a U g mk h
  obtain ⟨h0, h1, h2, h3, h4, h5⟩ := h
  exact ⟨h0, h1, va_K.moved (u := U) (U := U.calling g mk a) (Vm.Alike.refl U.vm) h2, fun x hx => hq_nestSame (hq_Nn hx) (u := U) rfl (h3 x hx), h4, h5⟩
theorem hq_at (hA : ∀ q, s.heap.size ≤ q → A q) (hK : va_K D hq_cl (hq_tys G) s) (hN : ∀ x ∈ hq_N, va_Nw x s) (hS : va_S A s.heap H locs) (hP : va_P D hq_cl w H) (hD : va_D A w) : ∀ U : State, U.heap = H → s.WarmedH U.vm → hq_pre D G A w U := by
  intro U hU hW
  exact ⟨fun q hq => hA q (Nat.le_trans hS.1 (by rw [← hU]; exact hq)), va_K.moved hW.alike hK, fun x hx => hq_nestWarm (hq_Nn hx) hW (hN x hx), by rw [hU]; exact hP, hD⟩
theorem hq_preS {As : List Value} (hA : ∀ q, s.heap.size ≤ q → A q) (hK : va_K D hq_cl (hq_tys G) s) (hN : ∀ x ∈ hq_N, va_Nw x s) (hS : va_S A s.heap H locs) (hP : va_P D hq_cl w H) (hD : va_D A w) : PreS s H (hq_Pre D G A As w) As :=
  ⟨hq_blind, fun U hU hW => ⟨rfl, hq_at hA hK hN hS hP hD U hU hW⟩⟩
theorem hq_preV {As : List Value} {C : String} (hA : ∀ q, s.heap.size ≤ q → A q) (hK : va_K D hq_cl (hq_tys G) s) (hN : ∀ x ∈ hq_N, va_Nw x s) (hS : va_S A s.heap H locs) (hP : va_P D hq_cl w H) (hD : va_D A w) (q0 ci : Nat) {b : Nat} {fs : List Value} (he : w[q0]? = some (b, .inr (ci, fs))) (hc : (hq_cl[ci]?).map (fun q => q.1) = some C) : PreV s H C b (hq_Pre D G A (.ref b :: As) w) As := by
  cases hq : hq_cl[ci]? with
  | none => rw [hq] at hc; cases hc
  | some q =>
    rw [hq] at hc
    obtain rfl := Option.some.inj hc
    exact ⟨hq_blind, va_recv hK hP hq he, fun U hU hW => ⟨rfl, hq_at hA hK hN hS hP hD U hU hW⟩⟩
end HQ1
section HQ2
variable {p : Program} {l : Launch} {e : Env} {R : Room} {s : State} {m : MethodId} {args : Array Value} {below : List Frame} {meth : Method} {c : Code} {H : Heap} {locs : List Loc} {cells slots : Nat} {Q : State → Prop}
variable {pc : Nat} {ls : Array Slot} {rest st0 : List Value} {a : Array Value} {A : Nat → Prop} {H0 : Heap} {mc ms : Nat} {D : va_G} {G : Nat → ClassId} {cc : ByteArray} {ws w : va_W}
variable {y : MethodName} {bytes : ByteArray} {maxL nL n index k b : Nat} {ret : Option FieldType} {Qc : Array Value → State → Outcome → State → Prop} {own host : String} {As : List Value}
/-- calls -/
theorem hq_rV (hx : p.tables.exec = Jvm.exec) (hb : c.code = cc) (hml : c.maxLocals = nL) (hown : s.vm.findClass own = some m.cls) (hts : ∀ w ∈ hq_W, w.before args s = true)
    (hM : Met l y (.code y bytes maxL ret :: hq_W) (hq_rm k mc ms) (hq_Pre D G A (.ref b :: As) w) Qc mc ms A) (hY : hq_YV y bytes maxL ret n) (hL : Jvm.Cond.methodLink own index y ∈ hq_W)
    (hA : ∀ q, s.heap.size ≤ q → A q) (hK : va_K D hq_cl (hq_tys G) s) (hN : ∀ x ∈ hq_N, va_Nw x s) (hS : va_S A s.heap H locs) (hP : va_P D hq_cl w H) (hD : va_D A w) (q0 ci : Nat) {fs : List Value} (he : w[q0]? = some (b, .inr (ci, fs))) (hc : (hq_cl[ci]?).map (fun q => q.1) = some y.cls)
    (hn : As.length = n) (hsz : ls.size = nL) (hst : st0 = As.reverse ++ .ref b :: rest) (hW : (rest.map fun v => v.category).sum ≤ 8) (hdg : decode cc pc = .ok (.invokevirtual index, 3)) (hf : cells + mc ≤ R.cells ∧ slots + ms ≤ R.slots) (hR : k + 1 ≤ R.frames ∧ 8 + (maxL + 11) + 40 * k ≤ R.locals) :
    va_Run p l e R s m args below meth c H locs cells slots mc ms (F0 m pc ls st0) rest (Qc (Value.ref b :: As).toArray) A :=
  va_runV (n := n) (C := y.cls) (As := As) (rest := rest) ⟨hx, hb, hml, hown, hts⟩ hM ⟨callB_of n hts (hq_gd hY.2.2.2.1) rfl rfl rfl (hts _ hY.2.2.1) (hts _ hL) hY.2.2.2.2 hR, hts _ hY.1, hts _ hY.2.1⟩ (hq_preV hA hK hN hS hP hD q0 ci he hc) rfl hn hsz hst (lv_room hW) hdg hf
theorem hq_rS (hx : p.tables.exec = Jvm.exec) (hb : c.code = cc) (hml : c.maxLocals = nL) (hown : s.vm.findClass own = some m.cls) (hts : ∀ w ∈ hq_W, w.before args s = true)
    (hM : Met l y (.code y bytes maxL ret :: hq_W) (hq_rm k mc ms) (hq_Pre D G A As w) Qc mc ms A) (hY : hq_YS y bytes maxL ret n) (hL : Jvm.Cond.methodLink own index y ∈ hq_W)
    (hA : ∀ q, s.heap.size ≤ q → A q) (hK : va_K D hq_cl (hq_tys G) s) (hN : ∀ x ∈ hq_N, va_Nw x s) (hS : va_S A s.heap H locs) (hP : va_P D hq_cl w H) (hD : va_D A w)
    (hn : As.length = n) (hsz : ls.size = nL) (hst : st0 = As.reverse ++ rest) (hW : (rest.map fun v => v.category).sum ≤ 8) (hdg : decode cc pc = .ok (.invokestatic index, 3)) (hf : cells + mc ≤ R.cells ∧ slots + ms ≤ R.slots) (hR : k + 1 ≤ R.frames ∧ 8 + (maxL + 11) + 40 * k ≤ R.locals) :
    va_Run p l e R s m args below meth c H locs cells slots mc ms (F0 m pc ls st0) rest (Qc As.toArray) A :=
  va_runS (n := n) (As := As) (rest := rest) ⟨hx, hb, hml, hown, hts⟩ hM ⟨callB_of n hts (hq_gd hY.2.2.1) rfl rfl rfl (hts _ hY.2.1) (hts _ hL) hY.2.2.2 hR, hts _ hY.1⟩ (hq_preS hA hK hN hS hP hD) rfl hn hsz hst (lv_room hW) hdg hf
theorem hq_rI (hx : p.tables.exec = Jvm.exec) (hb : c.code = cc) (hml : c.maxLocals = nL) (hown : s.vm.findClass own = some m.cls) (hts : ∀ w ∈ hq_W, w.before args s = true)
    (hM : Met l y (.code y bytes maxL none :: hq_W) (hq_rm k mc ms) (hq_Pre D G A (.ref b :: As) w) Qc mc ms A) (hY : hq_YI y bytes maxL n) (hL : Jvm.Cond.methodLink own index y ∈ hq_W)
    (hA : ∀ q, s.heap.size ≤ q → A q) (hK : va_K D hq_cl (hq_tys G) s) (hN : ∀ x ∈ hq_N, va_Nw x s) (hS : va_S A s.heap H locs) (hP : va_P D hq_cl w H) (hD : va_D A w)
    (hn : As.length = n) (hsz : ls.size = nL) (hst : st0 = As.reverse ++ .ref b :: rest) (hW : (rest.map fun v => v.category).sum ≤ 8) (hdg : decode cc pc = .ok (.invokespecial index, 3)) (hf : cells + mc ≤ R.cells ∧ slots + ms ≤ R.slots) (hR : k + 1 ≤ R.frames ∧ 8 + (maxL + 11) + 40 * k ≤ R.locals) :
    va_Run p l e R s m args below meth c H locs cells slots mc ms (F0 m pc ls st0) rest (Qc (Value.ref b :: As).toArray) A :=
  va_runI (n := n) (As := As) (rest := rest) ⟨hx, hb, hml, hown, hts⟩ hM ⟨callB_of n hts (hq_gd hY.2.2.2.1) rfl rfl rfl (hts _ hY.2.2.1) (hts _ hL) hY.2.2.2.2 hR, hY.2.1, hts _ hY.1⟩ (hq_preS hA hK hN hS hP hD) rfl hn hsz hst (lv_room hW) hdg hf
theorem hq_rVN (hx : p.tables.exec = Jvm.exec) (hb : c.code = cc) (hml : c.maxLocals = nL) (hown : s.vm.findClass own = some m.cls) (hts : ∀ w ∈ hq_W, w.before args s = true)
    (hM : Met l y (.code y bytes maxL ret :: hq_W) (hq_rm k mc ms) (hq_Pre D G A (.ref b :: As) w) Qc mc ms A) (hY : hq_YV y bytes maxL ret n) (hL : Jvm.Cond.methodLinkNest own index y host ∈ hq_N)
    (hA : ∀ q, s.heap.size ≤ q → A q) (hK : va_K D hq_cl (hq_tys G) s) (hN : ∀ x ∈ hq_N, va_Nw x s) (hS : va_S A s.heap H locs) (hP : va_P D hq_cl w H) (hD : va_D A w) (q0 ci : Nat) {fs : List Value} (he : w[q0]? = some (b, .inr (ci, fs))) (hc : (hq_cl[ci]?).map (fun q => q.1) = some y.cls)
    (hn : As.length = n) (hsz : ls.size = nL) (hst : st0 = As.reverse ++ .ref b :: rest) (hW : (rest.map fun v => v.category).sum ≤ 8) (hdg : decode cc pc = .ok (.invokevirtual index, 3)) (hf : cells + mc ≤ R.cells ∧ slots + ms ≤ R.slots) (hR : k + 1 ≤ R.frames ∧ 8 + (maxL + 11) + 40 * k ≤ R.locals) :
    va_Run p l e R s m args below meth c H locs cells slots mc ms (F0 m pc ls st0) rest (Qc (Value.ref b :: As).toArray) A :=
  va_runVN (n := n) (C := y.cls) (As := As) (rest := rest) ⟨hx, hb, hml, hown, hts⟩ hM ⟨va_cnB n hts (hq_gd hY.2.2.2.1) rfl rfl rfl (hN _ hL) (hts _ hY.2.2.1) hY.2.2.2.2 hR, hts _ hY.1, hts _ hY.2.1⟩ (hq_preV hA hK hN hS hP hD q0 ci he hc) rfl hn hsz hst (lv_room hW) hdg hf
theorem hq_rSN (hx : p.tables.exec = Jvm.exec) (hb : c.code = cc) (hml : c.maxLocals = nL) (hown : s.vm.findClass own = some m.cls) (hts : ∀ w ∈ hq_W, w.before args s = true)
    (hM : Met l y (.code y bytes maxL ret :: hq_W) (hq_rm k mc ms) (hq_Pre D G A As w) Qc mc ms A) (hY : hq_YS y bytes maxL ret n) (hL : Jvm.Cond.methodLinkNest own index y host ∈ hq_N)
    (hA : ∀ q, s.heap.size ≤ q → A q) (hK : va_K D hq_cl (hq_tys G) s) (hN : ∀ x ∈ hq_N, va_Nw x s) (hS : va_S A s.heap H locs) (hP : va_P D hq_cl w H) (hD : va_D A w)
    (hn : As.length = n) (hsz : ls.size = nL) (hst : st0 = As.reverse ++ rest) (hW : (rest.map fun v => v.category).sum ≤ 8) (hdg : decode cc pc = .ok (.invokestatic index, 3)) (hf : cells + mc ≤ R.cells ∧ slots + ms ≤ R.slots) (hR : k + 1 ≤ R.frames ∧ 8 + (maxL + 11) + 40 * k ≤ R.locals) :
    va_Run p l e R s m args below meth c H locs cells slots mc ms (F0 m pc ls st0) rest (Qc As.toArray) A :=
  va_runSN (n := n) (As := As) (rest := rest) ⟨hx, hb, hml, hown, hts⟩ hM ⟨va_cnB n hts (hq_gd hY.2.2.1) rfl rfl rfl (hN _ hL) (hts _ hY.2.1) hY.2.2.2 hR, hts _ hY.1, trivial⟩ (hq_preS hA hK hN hS hP hD) rfl hn hsz hst (lv_room hW) hdg hf
theorem hq_rIN (hx : p.tables.exec = Jvm.exec) (hb : c.code = cc) (hml : c.maxLocals = nL) (hown : s.vm.findClass own = some m.cls) (hts : ∀ w ∈ hq_W, w.before args s = true)
    (hM : Met l y (.code y bytes maxL none :: hq_W) (hq_rm k mc ms) (hq_Pre D G A (.ref b :: As) w) Qc mc ms A) (hY : hq_YI y bytes maxL n) (hL : Jvm.Cond.methodLinkNest own index y host ∈ hq_N)
    (hA : ∀ q, s.heap.size ≤ q → A q) (hK : va_K D hq_cl (hq_tys G) s) (hN : ∀ x ∈ hq_N, va_Nw x s) (hS : va_S A s.heap H locs) (hP : va_P D hq_cl w H) (hD : va_D A w)
    (hn : As.length = n) (hsz : ls.size = nL) (hst : st0 = As.reverse ++ .ref b :: rest) (hW : (rest.map fun v => v.category).sum ≤ 8) (hdg : decode cc pc = .ok (.invokespecial index, 3)) (hf : cells + mc ≤ R.cells ∧ slots + ms ≤ R.slots) (hR : k + 1 ≤ R.frames ∧ 8 + (maxL + 11) + 40 * k ≤ R.locals) :
    va_Run p l e R s m args below meth c H locs cells slots mc ms (F0 m pc ls st0) rest (Qc (Value.ref b :: As).toArray) A :=
  va_runIN (n := n) (As := As) (rest := rest) ⟨hx, hb, hml, hown, hts⟩ hM ⟨va_cnB n hts (hq_gd hY.2.2.2.1) rfl rfl rfl (hN _ hL) (hts _ hY.2.2.1) hY.2.2.2.2 hR, hY.2.1, hts _ hY.1⟩ (hq_preS hA hK hN hS hP hD) rfl hn hsz hst (lv_room hW) hdg hf
/-- behind a call -/
theorem hq_i {α : Type} {post : Int32 → α → Prop} {w' : α → va_W} (hr : va_Run p l e R s m args below meth c H locs cells slots mc ms (F0 m pc ls st0) rest (va_Qi post (hq_B D A w') A a) A) (hS : va_S A H0 H locs)
    (kk : ∀ (r : Int32) (u : α) (H1 : Heap) (locs1 : List Loc), post r u → va_P D hq_cl (w' u) H1 → va_D A (w' u) → va_S A H0 H1 locs1 → W p l e R s m args below meth c H1 locs1 (cells + mc) (slots + ms) Q (F0 m (pc + 3) ls (.int r :: rest))) : W p l e R s m args below meth c H locs cells slots Q (F0 m pc ls st0) :=
  va_calli hr hS (fun _ _ h => h) (fun _ h => h) (fun r u t H1 locs1 ht _ hp hB _ _ hS1 => kk r u H1 locs1 hp (by rw [← ht]; exact hB.1) hB.2 hS1)
theorem hq_l {α : Type} {post : Int64 → α → Prop} {w' : α → va_W} (hr : va_Run p l e R s m args below meth c H locs cells slots mc ms (F0 m pc ls st0) rest (va_Ql post (hq_B D A w') A a) A) (hS : va_S A H0 H locs)
    (kk : ∀ (r : Int64) (u : α) (H1 : Heap) (locs1 : List Loc), post r u → va_P D hq_cl (w' u) H1 → va_D A (w' u) → va_S A H0 H1 locs1 → W p l e R s m args below meth c H1 locs1 (cells + mc) (slots + ms) Q (F0 m (pc + 3) ls (.long r :: rest))) : W p l e R s m args below meth c H locs cells slots Q (F0 m pc ls st0) :=
  va_calll hr hS (fun _ _ h => h) (fun _ h => h) (fun r u t H1 locs1 ht _ hp hB _ _ hS1 => kk r u H1 locs1 hp (by rw [← ht]; exact hB.1) hB.2 hS1)
theorem hq_v {α : Type} {post : α → Prop} {w' : α → va_W} (hr : va_Run p l e R s m args below meth c H locs cells slots mc ms (F0 m pc ls st0) rest (va_Qv post (hq_B D A w') A a) A) (hS : va_S A H0 H locs)
    (kk : ∀ (u : α) (H1 : Heap) (locs1 : List Loc), post u → va_P D hq_cl (w' u) H1 → va_D A (w' u) → va_S A H0 H1 locs1 → W p l e R s m args below meth c H1 locs1 (cells + mc) (slots + ms) Q (F0 m (pc + 3) ls rest)) : W p l e R s m args below meth c H locs cells slots Q (F0 m pc ls st0) :=
  va_callv hr hS (fun _ _ h => h) (fun _ h => h) (fun u t H1 locs1 ht _ hp hB _ _ hS1 => kk u H1 locs1 hp (by rw [← ht]; exact hB.1) hB.2 hS1)
theorem hq_iF {E : Int32} {w' : va_W} (hr : va_Run p l e R s m args below meth c H locs cells slots 0 0 (F0 m pc ls st0) rest (va_Qi (fun r (_ : Unit) => r = E) (hq_B D A (fun _ => w')) A a) A) (hS : va_S A H0 H locs)
    (kk : ∀ (H1 : Heap) (locs1 : List Loc), va_P D hq_cl w' H1 → va_D A w' → va_S A H0 H1 locs1 → W p l e R s m args below meth c H1 locs1 cells slots Q (F0 m (pc + 3) ls (.int E :: rest))) : W p l e R s m args below meth c H locs cells slots Q (F0 m pc ls st0) :=
  hq_i hr hS (fun r u H1 locs1 h hP hD hS => by subst h; exact kk H1 locs1 hP hD hS)
theorem hq_lF {E : Int64} {w' : va_W} (hr : va_Run p l e R s m args below meth c H locs cells slots 0 0 (F0 m pc ls st0) rest (va_Ql (fun r (_ : Unit) => r = E) (hq_B D A (fun _ => w')) A a) A) (hS : va_S A H0 H locs)
    (kk : ∀ (H1 : Heap) (locs1 : List Loc), va_P D hq_cl w' H1 → va_D A w' → va_S A H0 H1 locs1 → W p l e R s m args below meth c H1 locs1 cells slots Q (F0 m (pc + 3) ls (.long E :: rest))) : W p l e R s m args below meth c H locs cells slots Q (F0 m pc ls st0) :=
  hq_l hr hS (fun r u H1 locs1 h hP hD hS => by subst h; exact kk H1 locs1 hP hD hS)
theorem hq_vF {w' : va_W} (hr : va_Run p l e R s m args below meth c H locs cells slots 0 0 (F0 m pc ls st0) rest (va_Qv (fun (_ : Unit) => True) (hq_B D A (fun _ => w')) A a) A) (hS : va_S A H0 H locs)
    (kk : ∀ (H1 : Heap) (locs1 : List Loc), va_P D hq_cl w' H1 → va_D A w' → va_S A H0 H1 locs1 → W p l e R s m args below meth c H1 locs1 cells slots Q (F0 m (pc + 3) ls rest)) : W p l e R s m args below meth c H locs cells slots Q (F0 m pc ls st0) :=
  hq_v hr hS (fun u H1 locs1 h hP hD hS => kk H1 locs1 hP hD hS)
/-- another face of the top -/
theorem hq_topi {x x' : Int32} (h : x = x') (k : W p l e R s m args below meth c H locs cells slots Q (F0 m pc ls (.int x' :: rest))) : W p l e R s m args below meth c H locs cells slots Q (F0 m pc ls (.int x :: rest)) := by rw [h]; exact k
theorem hq_topl {x x' : Int64} (h : x = x') (k : W p l e R s m args below meth c H locs cells slots Q (F0 m pc ls (.long x' :: rest))) : W p l e R s m args below meth c H locs cells slots Q (F0 m pc ls (.long x :: rest)) := by rw [h]; exact k
theorem hq_topq {x : Option Nat} {y : Nat} (h : x = some y) (k : W p l e R s m args below meth c H locs cells slots Q (F0 m pc ls (.ref y :: rest))) : W p l e R s m args below meth c H locs cells slots Q (F0 m pc ls (va_rf x :: rest)) := by rw [h]; exact k
/-- arrays at a natural place -/
theorem hq_iald {j : Nat} (hexec : p.tables.exec = Jvm.exec) (hb : c.code = cc) (hK : va_K D hq_cl (hq_tys G) s) (hP : va_P D hq_cl ws H) (q0 : Nat) {b n : Nat} {f : Nat → Int32} (ha : ws[q0]? = some (b, .inl (G 0, n, .inl f))) (hj : j < n) (hn : n < 2 ^ 31) (hdg : decode cc pc = .ok (.iaload, 1))
    (kk : W p l e R s m args below meth c H locs cells slots Q (F0 m (pc + 1) ls (.int (f j) :: rest))) : W p l e R s m args below meth c H locs cells slots Q (F0 m pc ls (.int (nI j) :: .ref b :: rest)) :=
  va_iald hexec hb hK hP q0 0 ha rfl (vp_in_nI hj hn) hdg (by rw [nI_clamp (by omega)]; exact kk)
theorem hq_cald {j : Nat} (hexec : p.tables.exec = Jvm.exec) (hb : c.code = cc) (hK : va_K D hq_cl (hq_tys G) s) (hP : va_P D hq_cl ws H) (q0 : Nat) {b n : Nat} {f : Nat → Int32} (ha : ws[q0]? = some (b, .inl (G 2, n, .inl f))) (hj : j < n) (hn : n < 2 ^ 31) (hdg : decode cc pc = .ok (.caload, 1))
    (kk : W p l e R s m args below meth c H locs cells slots Q (F0 m (pc + 1) ls (.int (f j) :: rest))) : W p l e R s m args below meth c H locs cells slots Q (F0 m pc ls (.int (nI j) :: .ref b :: rest)) :=
  va_cald hexec hb hK hP q0 2 ha rfl (vp_in_nI hj hn) hdg (by rw [nI_clamp (by omega)]; exact kk)
theorem hq_zald {j : Nat} (hexec : p.tables.exec = Jvm.exec) (hb : c.code = cc) (hK : va_K D hq_cl (hq_tys G) s) (hP : va_P D hq_cl ws H) (q0 : Nat) {b n : Nat} {f : Nat → Int32} (ha : ws[q0]? = some (b, .inl (G 3, n, .inl f))) (hj : j < n) (hn : n < 2 ^ 31) (hdg : decode cc pc = .ok (.baload, 1))
    (kk : W p l e R s m args below meth c H locs cells slots Q (F0 m (pc + 1) ls (.int (f j) :: rest))) : W p l e R s m args below meth c H locs cells slots Q (F0 m pc ls (.int (nI j) :: .ref b :: rest)) :=
  va_zald hexec hb hK hP q0 3 ha rfl (vp_in_nI hj hn) hdg (by rw [nI_clamp (by omega)]; exact kk)
theorem hq_lald {j : Nat} (hexec : p.tables.exec = Jvm.exec) (hb : c.code = cc) (hK : va_K D hq_cl (hq_tys G) s) (hP : va_P D hq_cl ws H) (q0 : Nat) {b n : Nat} {f : Nat → Int64} (ha : ws[q0]? = some (b, .inl (G 1, n, .inr (.inl f)))) (hj : j < n) (hn : n < 2 ^ 31) (hdg : decode cc pc = .ok (.laload, 1))
    (kk : W p l e R s m args below meth c H locs cells slots Q (F0 m (pc + 1) ls (.long (f j) :: rest))) : W p l e R s m args below meth c H locs cells slots Q (F0 m pc ls (.int (nI j) :: .ref b :: rest)) :=
  va_lald hexec hb hK hP q0 1 ha rfl (vp_in_nI hj hn) hdg (by rw [nI_clamp (by omega)]; exact kk)
theorem hq_aald {j : Nat} (hexec : p.tables.exec = Jvm.exec) (hb : c.code = cc) (hK : va_K D hq_cl (hq_tys G) s) (hP : va_P D hq_cl ws H) (q0 t0 : Nat) {b n : Nat} {cA : ClassId} {C : String} {f : Nat → Option Nat} (ha : ws[q0]? = some (b, .inl (cA, n, .inr (.inr (.inr (.inr f)))))) (ht : (hq_tys G)[t0]? = some (cA, .object C)) (hj : j < n) (hn : n < 2 ^ 31) (hdg : decode cc pc = .ok (.aaload, 1))
    (kk : W p l e R s m args below meth c H locs cells slots Q (F0 m (pc + 1) ls (va_rf (f j) :: rest))) : W p l e R s m args below meth c H locs cells slots Q (F0 m pc ls (.int (nI j) :: .ref b :: rest)) :=
  va_aldq hexec hb hK hP q0 t0 ha ht (vp_in_nI hj hn) hdg (by rw [nI_clamp (by omega)]; exact kk)
theorem hq_iast {j : Nat} (hexec : p.tables.exec = Jvm.exec) (hb : c.code = cc) (hK : va_K D hq_cl (hq_tys G) s) (hP : va_P D hq_cl ws H) (hD : va_D A ws) (hS : va_S A H0 H locs) (q0 : Nat) {b n : Nat} {f : Nat → Int32} (ha : ws[q0]? = some (b, .inl (G 0, n, .inl f))) (hj : j < n) (hn : n < 2 ^ 31) {x : Int32} (hdg : decode cc pc = .ok (.iastore, 1))
    (kk : ∀ (H1 : Heap) (locs1 : List Loc), va_P D hq_cl (ws.set q0 (b, .inl (G 0, n, .inl (upd f j x)))) H1 → va_D A (ws.set q0 (b, .inl (G 0, n, .inl (upd f j x)))) → va_S A H0 H1 locs1 → W p l e R s m args below meth c H1 locs1 cells slots Q (F0 m (pc + 1) ls rest)) : W p l e R s m args below meth c H locs cells slots Q (F0 m pc ls (.int x :: .int (nI j) :: .ref b :: rest)) :=
  va_iast hexec hb hK hP hD hS q0 0 ha rfl (vp_in_nI hj hn) hdg (by rw [nI_clamp (by omega)]; exact kk)
theorem hq_cast {j : Nat} (hexec : p.tables.exec = Jvm.exec) (hb : c.code = cc) (hK : va_K D hq_cl (hq_tys G) s) (hP : va_P D hq_cl ws H) (hD : va_D A ws) (hS : va_S A H0 H locs) (q0 : Nat) {b n : Nat} {f : Nat → Int32} (ha : ws[q0]? = some (b, .inl (G 2, n, .inl f))) (hj : j < n) (hn : n < 2 ^ 31) {x : Int32} (hv : vp_nar .char x = x) (hdg : decode cc pc = .ok (.castore, 1))
    (kk : ∀ (H1 : Heap) (locs1 : List Loc), va_P D hq_cl (ws.set q0 (b, .inl (G 2, n, .inl (upd f j x)))) H1 → va_D A (ws.set q0 (b, .inl (G 2, n, .inl (upd f j x)))) → va_S A H0 H1 locs1 → W p l e R s m args below meth c H1 locs1 cells slots Q (F0 m (pc + 1) ls rest)) : W p l e R s m args below meth c H locs cells slots Q (F0 m pc ls (.int x :: .int (nI j) :: .ref b :: rest)) :=
  va_cast hexec hb hK hP hD hS q0 2 ha rfl (vp_in_nI hj hn) hdg (by rw [nI_clamp (by omega), hv]; exact kk)
theorem hq_zast {j : Nat} (hexec : p.tables.exec = Jvm.exec) (hb : c.code = cc) (hK : va_K D hq_cl (hq_tys G) s) (hP : va_P D hq_cl ws H) (hD : va_D A ws) (hS : va_S A H0 H locs) (q0 : Nat) {b n : Nat} {f : Nat → Int32} (ha : ws[q0]? = some (b, .inl (G 3, n, .inl f))) (hj : j < n) (hn : n < 2 ^ 31) {x : Int32} (hv : vp_nar .boolean x = x) (hdg : decode cc pc = .ok (.bastore, 1))
    (kk : ∀ (H1 : Heap) (locs1 : List Loc), va_P D hq_cl (ws.set q0 (b, .inl (G 3, n, .inl (upd f j x)))) H1 → va_D A (ws.set q0 (b, .inl (G 3, n, .inl (upd f j x)))) → va_S A H0 H1 locs1 → W p l e R s m args below meth c H1 locs1 cells slots Q (F0 m (pc + 1) ls rest)) : W p l e R s m args below meth c H locs cells slots Q (F0 m pc ls (.int x :: .int (nI j) :: .ref b :: rest)) :=
  va_zast hexec hb hK hP hD hS q0 3 ha rfl (vp_in_nI hj hn) hdg (by rw [nI_clamp (by omega), hv]; exact kk)
theorem hq_last {j : Nat} (hexec : p.tables.exec = Jvm.exec) (hb : c.code = cc) (hK : va_K D hq_cl (hq_tys G) s) (hP : va_P D hq_cl ws H) (hD : va_D A ws) (hS : va_S A H0 H locs) (q0 : Nat) {b n : Nat} {f : Nat → Int64} (ha : ws[q0]? = some (b, .inl (G 1, n, .inr (.inl f)))) (hj : j < n) (hn : n < 2 ^ 31) {x : Int64} (hdg : decode cc pc = .ok (.lastore, 1))
    (kk : ∀ (H1 : Heap) (locs1 : List Loc), va_P D hq_cl (ws.set q0 (b, .inl (G 1, n, .inr (.inl (vp_updL f j x))))) H1 → va_D A (ws.set q0 (b, .inl (G 1, n, .inr (.inl (vp_updL f j x))))) → va_S A H0 H1 locs1 → W p l e R s m args below meth c H1 locs1 cells slots Q (F0 m (pc + 1) ls rest)) : W p l e R s m args below meth c H locs cells slots Q (F0 m pc ls (.long x :: .int (nI j) :: .ref b :: rest)) :=
  va_last hexec hb hK hP hD hS q0 1 ha rfl (vp_in_nI hj hn) hdg (by rw [nI_clamp (by omega)]; exact kk)
theorem hq_aast {j v : Nat} (hexec : p.tables.exec = Jvm.exec) (hb : c.code = cc) (hK : va_K D hq_cl (hq_tys G) s) (hP : va_P D hq_cl ws H) (hD : va_D A ws) (hS : va_S A H0 H locs) (q0 t0 qk ci : Nat) {b n : Nat} {cA : ClassId} {r : vw_C} {vs : List Value} {f : Nat → Option Nat} (ha : ws[q0]? = some (b, .inl (cA, n, .inr (.inr (.inr (.inr f)))))) (ht : (hq_tys G)[t0]? = some (cA, .object r.1)) (hv : ws[qk]? = some (v, .inr (ci, vs))) (hc : hq_cl[ci]? = some r) (hj : j < n) (hn : n < 2 ^ 31) (hdg : decode cc pc = .ok (.aastore, 1))
    (kk : ∀ (H1 : Heap) (locs1 : List Loc), va_P D hq_cl (ws.set q0 (b, .inl (cA, n, .inr (.inr (.inr (.inr (va_up f j (some v)))))))) H1 → va_D A (ws.set q0 (b, .inl (cA, n, .inr (.inr (.inr (.inr (va_up f j (some v)))))))) → va_S A H0 H1 locs1 → W p l e R s m args below meth c H1 locs1 cells slots Q (F0 m (pc + 1) ls rest)) : W p l e R s m args below meth c H locs cells slots Q (F0 m pc ls (.ref v :: .int (nI j) :: .ref b :: rest)) :=
  va_astq hexec hb hK hP hD hS q0 t0 qk ci ha ht hv hc (vp_in_nI hj hn) hdg (by rw [nI_clamp (by omega)]; exact kk)
end HQ2
section HQ3
variable {l : Launch} {α : Type} {y : MethodName} {k mc ms n : Nat} {cc : ByteArray} {ty : FieldType} {av : List Value} {D : va_G} {G : Nat → ClassId} {A : Nat → Prop} {w : va_W} {w' : α → va_W}
/-- a method's body: an answer of ints (also boolean and char) -/
theorem hq_bI {post : Int32 → α → Prop} (hy : plainName y.cls = true) (hav : (lg_sl av).length ≤ n) (hn : ∀ r u, post r u → narrow ty (.int r) = .int r)
    (body : ∀ (p : Program) (e : Env) (s : State) (m : MethodId) (args : Array Value) (below : List Frame) (meth : Method) (c : Code) (Q : State → Prop), p.tables.exec = Jvm.exec → c.code = cc → c.maxLocals = n → (∀ x ∈ hq_W, x.before args s = true) → s.vm.findClass y.cls = some m.cls → (∀ q, s.heap.size ≤ q → A q) → va_K D hq_cl (hq_tys G) s → (∀ x ∈ hq_N, va_Nw x s) →
      (∀ (v : Int32) (u : α) (H : Heap) (locs : List Loc) (pc : Nat) (ls : Array Slot), decode cc pc = .ok (.ireturn, 1) → post v u → va_P D hq_cl (w' u) H → va_D A (w' u) → va_S A s.heap H locs → W p l e (hq_rm k mc ms) s m args below meth c H locs mc ms Q (F0 m pc ls [.int v])) →
      ∀ (ls : Array Slot) (H : Heap) (locs : List Loc), lv_has ls n (lv_args 0 av) → va_P D hq_cl w H → va_D A w → va_S A s.heap H locs → W p l e (hq_rm k mc ms) s m args below meth c H locs 0 0 Q (F0 m 0 ls [])) :
    hq_MI l D G A y cc n ty k mc ms av w post w' := by
  refine Met.ofW (cc := cc) (maxL := n) (ret := some ty) hy rfl ?_
  intro p e s m args below meth c s₁ B hml hv
  obtain ⟨rfl, hA, hK, hN, hP, hD⟩ := hv
  have hlocks := B.notSynchronized
  have hts := atoms_spec (ws := Jvm.Cond.code y cc n (some ty) :: hq_W) B.pre
  rw [lg_entry_eq]
  exact body p e s m _ below meth c _ B.exec B.bytes hml (fun x hx => hts x (List.mem_cons_of_mem _ hx)) (findClass_of_methodNamed B.named) hA hK hN
    (fun v u H locs pc ls hd hp hP1 hD1 hS => W.zret B.exec B.bytes B.returns (hn v u hp) (fun t ht _ => ⟨⟨v, u, rfl, hp, by rw [ht]; exact hP1, hD1⟩, hS.F ht⟩) hS.2.2 hd)
    _ _ _ (lv_entry av hav) hP hD va_S.rf
theorem hq_bL {post : Int64 → α → Prop} (hy : plainName y.cls = true) (hav : (lg_sl av).length ≤ n)
    (body : ∀ (p : Program) (e : Env) (s : State) (m : MethodId) (args : Array Value) (below : List Frame) (meth : Method) (c : Code) (Q : State → Prop), p.tables.exec = Jvm.exec → c.code = cc → c.maxLocals = n → (∀ x ∈ hq_W, x.before args s = true) → s.vm.findClass y.cls = some m.cls → (∀ q, s.heap.size ≤ q → A q) → va_K D hq_cl (hq_tys G) s → (∀ x ∈ hq_N, va_Nw x s) →
      (∀ (v : Int64) (u : α) (H : Heap) (locs : List Loc) (pc : Nat) (ls : Array Slot), decode cc pc = .ok (.lreturn, 1) → post v u → va_P D hq_cl (w' u) H → va_D A (w' u) → va_S A s.heap H locs → W p l e (hq_rm k mc ms) s m args below meth c H locs mc ms Q (F0 m pc ls [.long v])) →
      ∀ (ls : Array Slot) (H : Heap) (locs : List Loc), lv_has ls n (lv_args 0 av) → va_P D hq_cl w H → va_D A w → va_S A s.heap H locs → W p l e (hq_rm k mc ms) s m args below meth c H locs 0 0 Q (F0 m 0 ls [])) :
    hq_ML l D G A y cc n k mc ms av w post w' := by
  refine Met.ofW (cc := cc) (maxL := n) (ret := some .long) hy rfl ?_
  intro p e s m args below meth c s₁ B hml hv
  obtain ⟨rfl, hA, hK, hN, hP, hD⟩ := hv
  have hlocks := B.notSynchronized
  have hts := atoms_spec (ws := Jvm.Cond.code y cc n (some .long) :: hq_W) B.pre
  rw [lg_entry_eq]
  exact body p e s m _ below meth c _ B.exec B.bytes hml (fun x hx => hts x (List.mem_cons_of_mem _ hx)) (findClass_of_methodNamed B.named) hA hK hN
    (fun v u H locs pc ls hd hp hP1 hD1 hS => W.lret B.exec B.bytes B.returns (fun t ht _ => ⟨⟨v, u, rfl, hp, by rw [ht]; exact hP1, hD1⟩, hS.F ht⟩) hS.2.2 hd)
    _ _ _ (lv_entry av hav) hP hD va_S.rf
theorem hq_bV {post : α → Prop} (hy : plainName y.cls = true) (hav : (lg_sl av).length ≤ n)
    (body : ∀ (p : Program) (e : Env) (s : State) (m : MethodId) (args : Array Value) (below : List Frame) (meth : Method) (c : Code) (Q : State → Prop), p.tables.exec = Jvm.exec → c.code = cc → c.maxLocals = n → (∀ x ∈ hq_W, x.before args s = true) → s.vm.findClass y.cls = some m.cls → (∀ q, s.heap.size ≤ q → A q) → va_K D hq_cl (hq_tys G) s → (∀ x ∈ hq_N, va_Nw x s) → meth.name = y.name →
      (∀ (u : α) (H : Heap) (locs : List Loc) (pc : Nat) (ls : Array Slot), decode cc pc = .ok (.return_, 1) → post u → va_P D hq_cl (w' u) H → va_D A (w' u) → va_S A s.heap H locs → W p l e (hq_rm k mc ms) s m args below meth c H locs mc ms Q (F0 m pc ls [])) →
      ∀ (ls : Array Slot) (H : Heap) (locs : List Loc), lv_has ls n (lv_args 0 av) → va_P D hq_cl w H → va_D A w → va_S A s.heap H locs → W p l e (hq_rm k mc ms) s m args below meth c H locs 0 0 Q (F0 m 0 ls [])) :
    hq_MV l D G A y cc n k mc ms av w post w' := by
  refine Met.ofW (cc := cc) (maxL := n) (ret := none) hy rfl ?_
  intro p e s m args below meth c s₁ B hml hv
  obtain ⟨rfl, hA, hK, hN, hP, hD⟩ := hv
  have hlocks := B.notSynchronized
  have hts := atoms_spec (ws := Jvm.Cond.code y cc n none :: hq_W) B.pre
  rw [lg_entry_eq]
  exact body p e s m _ below meth c _ B.exec B.bytes hml (fun x hx => hts x (List.mem_cons_of_mem _ hx)) (findClass_of_methodNamed B.named) hA hK hN (name_of_methodNamed B.named B.method).1
    (fun u H locs pc ls hd hp hP1 hD1 hS => W.vret B.exec B.bytes B.returns (fun t ht _ => ⟨⟨u, rfl, hp, by rw [ht]; exact hP1, hD1⟩, hS.F ht⟩) hS.2.2 hd)
    _ _ _ (lv_entry av hav) hP hD va_S.rf
end HQ3
