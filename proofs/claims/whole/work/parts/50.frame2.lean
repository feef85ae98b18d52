/-! Whole arrays copied; worlds in another order. -/
section HQF2
variable {p : Program} {l : Launch} {e : Env} {R : Room} {s : State} {m : MethodId} {args : Array Value} {below : List Frame} {meth : Method} {c : Code} {H : Heap} {locs : List Loc} {cells slots : Nat} {Q : State → Prop}
variable {pc : Nat} {ls : Array Slot} {rest : List Value} {A : Nat → Prop} {H0 : Heap} {D : va_G} {G : Nat → ClassId} {cc : ByteArray} {ws : va_W} {own : String} {index a a0 n : Nat}
theorem hq_cpi (hexec : p.tables.exec = Jvm.exec) (hb : c.code = cc) (hml : c.maxLocals = ls.size) (hown : s.vm.findClass own = some m.cls) (hlink : (Jvm.Cond.methodLink own index arraycopyName).before args s = true) (hnat : (Jvm.Cond.native arraycopyName).before args s = true) (hstat : (Jvm.Cond.static arraycopyName).before args s = true) (hini : (Jvm.Cond.initialized "java/lang/System").before args s = true)
    (hK : va_K D hq_cl (hq_tys G) s) (hP : va_P D hq_cl ws H) (hD : va_D A ws) (hS : va_S A H0 H locs) (q0 q1 : Nat) {f g : Nat → Int32} (ha0 : ws[q0]? = some (a0, .inl (G 0, n, .inl f))) (ha1 : ws[q1]? = some (a, .inl (G 0, n, .inl g))) (hn : n < 2 ^ 31)
    (hframes : 1 ≤ R.frames) (hlocals : (rest.map fun v => v.category).sum + (nativeFrameWords "java/lang/System" "arraycopy" 5 + 11) ≤ R.locals) (hdg : decode cc pc = .ok (.invokestatic index, 3))
    (kk : ∀ (H1 : Heap) (locs1 : List Loc), va_P D hq_cl (ws.set q1 (a, .inl (G 0, n, .inl (va_cpy f g 0 0 n)))) H1 → va_D A (ws.set q1 (a, .inl (G 0, n, .inl (va_cpy f g 0 0 n)))) → va_S A H0 H1 locs1 → W p l e R s m args below meth c H1 locs1 cells slots Q (F0 m (pc + 3) ls rest)) : W p l e R s m args below meth c H locs cells slots Q (F0 m pc ls (.int (nI n) :: .int (nI 0) :: .ref a :: .int (nI 0) :: .ref a0 :: rest)) :=
  va_copyi hexec hb hml hown hlink hnat hstat hini hK hP hD hS q0 q1 0 0 ha0 ha1 rfl rfl rfl (by decide) (by decide) (nI_pos hn) (by rw [nI_clamp (by decide), nI_clamp hn]; omega) (by rw [nI_clamp (by decide), nI_clamp hn]; omega) (fun _ _ => rfl) hframes hlocals hdg (by rw [nI_clamp (by decide), nI_clamp hn]; exact kk)
theorem hq_cpl (hexec : p.tables.exec = Jvm.exec) (hb : c.code = cc) (hml : c.maxLocals = ls.size) (hown : s.vm.findClass own = some m.cls) (hlink : (Jvm.Cond.methodLink own index arraycopyName).before args s = true) (hnat : (Jvm.Cond.native arraycopyName).before args s = true) (hstat : (Jvm.Cond.static arraycopyName).before args s = true) (hini : (Jvm.Cond.initialized "java/lang/System").before args s = true)
    (hK : va_K D hq_cl (hq_tys G) s) (hP : va_P D hq_cl ws H) (hD : va_D A ws) (hS : va_S A H0 H locs) (q0 q1 : Nat) {f g : Nat → Int64} (ha0 : ws[q0]? = some (a0, .inl (G 1, n, .inr (.inl f)))) (ha1 : ws[q1]? = some (a, .inl (G 1, n, .inr (.inl g)))) (hn : n < 2 ^ 31)
    (hframes : 1 ≤ R.frames) (hlocals : (rest.map fun v => v.category).sum + (nativeFrameWords "java/lang/System" "arraycopy" 5 + 11) ≤ R.locals) (hdg : decode cc pc = .ok (.invokestatic index, 3))
    (kk : ∀ (H1 : Heap) (locs1 : List Loc), va_P D hq_cl (ws.set q1 (a, .inl (G 1, n, .inr (.inl (va_cpy f g 0 0 n))))) H1 → va_D A (ws.set q1 (a, .inl (G 1, n, .inr (.inl (va_cpy f g 0 0 n))))) → va_S A H0 H1 locs1 → W p l e R s m args below meth c H1 locs1 cells slots Q (F0 m (pc + 3) ls rest)) : W p l e R s m args below meth c H locs cells slots Q (F0 m pc ls (.int (nI n) :: .int (nI 0) :: .ref a :: .int (nI 0) :: .ref a0 :: rest)) :=
  va_copyl hexec hb hml hown hlink hnat hstat hini hK hP hD hS q0 q1 1 1 ha0 ha1 rfl rfl rfl (by decide) (by decide) (nI_pos hn) (by rw [nI_clamp (by decide), nI_clamp hn]; omega) (by rw [nI_clamp (by decide), nI_clamp hn]; omega) (fun _ _ => rfl) hframes hlocals hdg (by rw [nI_clamp (by decide), nI_clamp hn]; exact kk)
end HQF2
section HQPERM
variable {D : va_G} {cl : List vw_C} {A : Nat → Prop} {w w' : va_W} {H : Heap}
theorem hq_P_mem (h : va_P D cl w H) : ∀ q ∈ w, va_at D cl q H := by
  intro q hq
  obtain ⟨k, hk⟩ := List.getElem?_of_mem hq
  exact h k q hk
theorem hq_P_of (h : ∀ q ∈ w, va_at D cl q H) : va_P D cl w H := fun k q hk => h q (List.mem_of_getElem? hk)
theorem hq_P_perm (h : w.Perm w') (hP : va_P D cl w H) : va_P D cl w' H := hq_P_of (fun q hq => hq_P_mem hP q (h.mem_iff.mpr hq))
theorem hq_D_nd (h : va_D A w) : (w.map Prod.fst).Nodup ∧ ∀ q ∈ w, A q.1 := by
  refine ⟨?_, fun q hq => ?_⟩
  · rw [List.nodup_iff_pairwise_ne, List.pairwise_iff_getElem]
    intro i j hi hj hij
    rw [List.length_map] at hi hj
    rw [List.getElem_map, List.getElem_map]
    intro e
    have := h.1 i j w[i] w[j] (List.getElem?_eq_getElem hi) (List.getElem?_eq_getElem hj) e
    omega
  · obtain ⟨k, hk⟩ := List.getElem?_of_mem hq
    exact h.2 k q hk
theorem hq_D_of (h : (w.map Prod.fst).Nodup) (ha : ∀ q ∈ w, A q.1) : va_D A w := by
  refine ⟨fun i j p q hp hq e => ?_, fun k q hk => ha q (List.mem_of_getElem? hk)⟩
  rw [List.nodup_iff_pairwise_ne, List.pairwise_iff_getElem] at h
  obtain ⟨hi, rfl⟩ := List.getElem?_eq_some_iff.mp hp
  obtain ⟨hj, rfl⟩ := List.getElem?_eq_some_iff.mp hq
  rcases Nat.lt_trichotomy i j with hl | hl | hl
  · have := h i j (by rw [List.length_map]; exact hi) (by rw [List.length_map]; exact hj) hl
    rw [List.getElem_map, List.getElem_map] at this
    exact absurd e this
  · exact hl
  · have := h j i (by rw [List.length_map]; exact hj) (by rw [List.length_map]; exact hi) hl
    rw [List.getElem_map, List.getElem_map] at this
    exact absurd e.symm this
theorem hq_D_perm (h : w.Perm w') (hD : va_D A w) : va_D A w' := by
  obtain ⟨h1, h2⟩ := hq_D_nd hD
  exact hq_D_of ((h.map Prod.fst).nodup_iff.mp h1) (fun q hq => h2 q (h.mem_iff.mpr hq))
end HQPERM
theorem hq_lt2 {x : Int32} (h : x < 2) : ¬ 1 < x := by
  intro h2
  have a1 := Int32.lt_iff_toInt_lt.mp h
  have a2 := Int32.lt_iff_toInt_lt.mp h2
  have e1 : (2 : Int32).toInt = 2 := by decide
  have e2 : (1 : Int32).toInt = 1 := by decide
  omega
