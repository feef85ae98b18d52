/-! Predictions and moves over a list of terms. -/
def hq_prSL (wt : Nat → Int32) (n : Nat) : List (Int32 × Int32) → Int64 → Int64
  | [], v => v
  | x :: xs, v => hq_prSL wt n xs (v + ((Int32.toInt64 (wt (hq_slot n x.1))) * (Int32.toInt64 x.2)))
def hq_prdL (wt : Nat → Int32) (n : Nat) (T : List (Int32 × Int32)) : Int32 := Int64.toInt32 (f_H_clip ((hq_prSL wt n T 0) / 10000) 1000000)
/-- an array holds a list from k on -/
def hq_hold (T : List (Int32 × Int32)) (th tv : Nat → Int32) (k : Nat) : Prop := ∀ j, j < T.length → th (k + j) = (T.getD j (0, 0)).1 ∧ tv (k + j) = (T.getD j (0, 0)).2
theorem hq_hold_tl {x : Int32 × Int32} {T : List (Int32 × Int32)} {th tv : Nat → Int32} {k : Nat} (h : hq_hold (x :: T) th tv k) : th k = x.1 ∧ tv k = x.2 ∧ hq_hold T th tv (k + 1) := by
  have h0 := h 0 (by simp)
  refine ⟨h0.1, h0.2, fun j hj => ?_⟩
  have h1 := h (j + 1) (by simp; omega)
  rw [show k + 1 + j = k + (j + 1) by omega]
  exact h1
theorem hq_getD_fst (T : List (Int32 × Int32)) (j : Nat) (h : j < T.length) : (T.map Prod.fst).getD j 0 = (T.getD j (0, 0)).1 := by
  rw [List.getD_eq_getElem?_getD, List.getD_eq_getElem?_getD, List.getElem?_map, List.getElem?_eq_getElem h]
  rfl
theorem hq_getD_snd (T : List (Int32 × Int32)) (j : Nat) (h : j < T.length) : (T.map Prod.snd).getD j 0 = (T.getD j (0, 0)).2 := by
  rw [List.getD_eq_getElem?_getD, List.getD_eq_getElem?_getD, List.getElem?_map, List.getElem?_eq_getElem h]
  rfl
theorem hq_hold_wr (T : List (Int32 × Int32)) (th tv : Nat → Int32) : hq_hold T (hq_wr upd th 0 (T.map Prod.fst)) (hq_wr upd tv 0 (T.map Prod.snd)) 0 := by
  intro j hj
  rw [hq_wr_at _ _ _ _ (by rw [List.length_map]; exact hj), hq_wr_at _ _ _ _ (by rw [List.length_map]; exact hj), hq_getD_fst _ _ hj, hq_getD_snd _ _ hj]
  exact ⟨rfl, rfl⟩
theorem hq_prS_L {wt : Nat → Int32} {n : Nat} {th tv : Nat → Int32} : ∀ (T : List (Int32 × Int32)) (k : Nat) (v : Int64), hq_hold T th tv k → hq_prS wt n th tv k T.length v = hq_prSL wt n T v := by
  intro T
  induction T with
  | nil => intro k v _; rfl
  | cons x T ih =>
    intro k v h
    obtain ⟨h1, h2, h3⟩ := hq_hold_tl h
    show hq_prS wt n th tv (k + 1) T.length (v + ((Int32.toInt64 (wt (hq_slot n (th k)))) * (Int32.toInt64 (tv k)))) = _
    rw [ih _ _ h3, h1, h2]
    rfl
theorem hq_prd_L {wt : Nat → Int32} {n : Nat} {th tv : Nat → Int32} {T : List (Int32 × Int32)} (h : hq_hold T th tv 0) : hq_prd wt n th tv T.length = hq_prdL wt n T := by
  rw [hq_prd, hq_prS_L T 0 0 h, hq_prdL]
def hq_mvL (ru : Int32) (n : Nat) (gr : Int32) : List (Int32 × Int32) → (Nat → Int32) × (Nat → Int64) × (Nat → Int64) → (Nat → Int32) × (Nat → Int64) × (Nat → Int64)
  | [], S => S
  | x :: xs, S => hq_mvL ru n gr xs (hq_mv1 ru (hq_slot n x.1) x.2 (((Int32.toInt64 gr) * (Int32.toInt64 x.2)) / 100) S)
theorem hq_mv_L {ru : Int32} {n : Nat} {gr : Int32} {th tv : Nat → Int32} : ∀ (T : List (Int32 × Int32)) (k : Nat) (S : (Nat → Int32) × (Nat → Int64) × (Nat → Int64)), hq_hold T th tv k → hq_mv ru n th tv gr k T.length S = hq_mvL ru n gr T S := by
  intro T
  induction T with
  | nil => intro k S _; rfl
  | cons x T ih =>
    intro k S h
    obtain ⟨h1, h2, h3⟩ := hq_hold_tl h
    show hq_mv ru n th tv gr (k + 1) T.length (hq_mv1 ru (hq_slot n (th k)) (tv k) (((Int32.toInt64 gr) * (Int32.toInt64 (tv k))) / 100) S) = _
    rw [ih _ _ h3, h1, h2]
    rfl
/-- the terms' values are in range -/
def hq_tok (T : List (Int32 × Int32)) : Prop := ∀ x ∈ T, -99999 ≤ x.2.toInt ∧ x.2.toInt ≤ 99999
theorem hq_tok_hold {T : List (Int32 × Int32)} {th tv : Nat → Int32} (h : hq_tok T) (hh : hq_hold T th tv 0) : ∀ k, k < T.length → -99999 ≤ (tv k).toInt ∧ (tv k).toInt ≤ 99999 := by
  intro k hk
  have e := (hh k hk).2
  rw [Nat.zero_add] at e
  rw [e]
  apply h
  rw [List.getD_eq_getElem?_getD, List.getElem?_eq_getElem hk]
  exact List.getElem_mem hk
theorem hq_tm_in (fh fv : Nat → Int32) (f g : Nat) : -99999 ≤ (hq_tm fh fv f g).2.toInt ∧ (hq_tm fh fv f g).2.toInt ≤ 99999 := by
  unfold hq_tm
  obtain ⟨a, b, _⟩ := hq_clip_bd (v := ((Int32.toInt64 (fv f)) * (Int32.toInt64 (fv g))) / 100) (m0 := 99999) (k := 99999) (by decide) (by decide)
  show -99999 ≤ (Int64.toInt32 _).toInt ∧ (Int64.toInt32 _).toInt ≤ 99999
  rw [Jvm.Kit.i32_of_i64 (by omega) (by omega)]
  exact ⟨a, b⟩
theorem hq_tok_app {a b : List (Int32 × Int32)} (ha : hq_tok a) (hb : hq_tok b) : hq_tok (a ++ b) := fun x hx => (List.mem_append.mp hx).elim (ha x) (hb x)
theorem hq_tok_prs {fh fv fl : Nat → Int32} {f : Nat} {rt : Int32} : ∀ n g, hq_tok (hq_prs fh fv fl f rt g n) := by
  intro n
  induction n with
  | zero => intro g x hx; cases hx
  | succ n ih =>
    intro g
    by_cases hc : fl g = rt
    · simp only [hq_prs, if_pos hc]
      intro x hx
      rcases List.mem_cons.mp hx with rfl | hx
      · exact hq_tm_in _ _ _ _
      · exact ih (g + 1) x hx
    · simp only [hq_prs, if_neg hc]
      exact ih (g + 1)
theorem hq_tok_cr {fh fv fl : Nat → Int32} {k : Nat} {lf rt : Int32} : ∀ n f, hq_tok (hq_cr fh fv fl k lf rt f n) := by
  intro n
  induction n with
  | zero => intro f x hx; cases hx
  | succ n ih =>
    intro f
    by_cases hc : fl f = lf
    · simp only [hq_cr, if_pos hc]
      refine hq_tok_app ?_ (ih (f + 1))
      unfold hq_prs0
      by_cases h2 : fl f = rt
      · rw [if_pos h2]; exact hq_tok_prs _ _
      · rw [if_neg h2]; exact hq_tok_prs _ _
    · simp only [hq_cr, if_neg hc]
      exact ih (f + 1)
theorem hq_tok_crs {fh fv fl cl cr : Nat → Int32} {k : Nat} : ∀ n g, hq_tok (hq_crs fh fv fl k cl cr g n) := by
  intro n
  induction n with
  | zero => intro g x hx; cases hx
  | succ n ih => intro g; exact hq_tok_app (hq_tok_cr _ _) (ih (g + 1))
theorem hq_tok_fs {fh fv : Nat → Int32} {k : Nat} (h : ∀ q, q < k → -99999 ≤ (fv q).toInt ∧ (fv q).toInt ≤ 99999) : ∀ n f, f + n ≤ k → hq_tok (hq_fs fh fv f n) := by
  intro n
  induction n with
  | zero => intro f _ x hx; cases hx
  | succ n ih =>
    intro f hf x hx
    rcases List.mem_cons.mp hx with rfl | hx
    · exact h f (by omega)
    · exact ih (f + 1) (by omega) x hx
theorem hq_tok_tms {fh fv fl cl cr : Nat → Int32} {k nc : Nat} (h : ∀ q, q < k → -99999 ≤ (fv q).toInt ∧ (fv q).toInt ≤ 99999) : hq_tok (hq_tms fh fv fl k cl cr nc) := by
  unfold hq_tms
  refine hq_tok_app (hq_tok_app (hq_tok_fs h k 0 (by omega)) (hq_tok_crs _ _)) ?_
  intro x hx
  rw [List.mem_singleton.mp hx]
  decide
/-- what a table keeps, over a list -/
theorem hq_inv_mv1 {ru : Int32} {n a : Nat} {x : Int32} {d : Int64} {S : (Nat → Int32) × (Nat → Int64) × (Nat → Int64)} (h : hq_inv ru n S.2.1 S.2.2) (ha : a < n) (d0 : -100000000 ≤ d.toInt) (d1 : d.toInt ≤ 100000000) (x0 : -99999 ≤ x.toInt) (x1 : x.toInt ≤ 99999) : hq_inv ru n (hq_mv1 ru a x d S).2.1 (hq_mv1 ru a x d S).2.2 := by
  unfold hq_mv1
  by_cases hr : ru = 1
  · rw [if_pos hr]; exact hq_inv_r1 h ha d0 d1 hr
  · rw [if_neg hr]; exact hq_inv_r0 h ha d0 d1 hr x0 x1
theorem hq_inv_mvL {ru : Int32} {n : Nat} (hn : hq_pow n) {gr : Int32} (g0 : -100000 ≤ gr.toInt) (g1 : gr.toInt ≤ 100000) : ∀ (T : List (Int32 × Int32)) (S : (Nat → Int32) × (Nat → Int64) × (Nat → Int64)), hq_tok T → hq_inv ru n S.2.1 S.2.2 → hq_inv ru n (hq_mvL ru n gr T S).2.1 (hq_mvL ru n gr T S).2.2 := by
  intro T
  induction T with
  | nil => intro S _ h; exact h
  | cons x T ih =>
    intro S ht h
    obtain ⟨x0, x1⟩ := ht x List.mem_cons_self
    obtain ⟨d0, d1⟩ := hq_d_in g0 g1 x0 x1
    exact ih _ (fun y hy => ht y (List.mem_cons_of_mem _ hy)) (hq_inv_mv1 h (hq_slot_lt hn _) d0 d1 x0 x1)
/-- learning an example m times -/
def hq_tch (ru : Int32) (n : Nat) (kd lb : Int32) (T : List (Int32 × Int32)) : Nat → (Nat → Int32) × (Nat → Int64) × (Nat → Int64) → (Nat → Int32) × (Nat → Int64) × (Nat → Int64)
  | 0, S => S
  | m + 1, S => hq_tch ru n kd lb T m (hq_mvL ru n (f_Loss_gradientOf kd (hq_prdL S.1 n T) lb) T S)
theorem hq_side_in (x : Int32) : f_Loss_sideOf x = 1 ∨ f_Loss_sideOf x = -1 := by
  unfold f_Loss_sideOf
  by_cases h : x < 0
  · rw [if_pos h]; exact Or.inr rfl
  · rw [if_neg h]; exact Or.inl rfl
theorem hq_grad_in (kd pr lb : Int32) : -100000 ≤ (f_Loss_gradientOf kd pr lb).toInt ∧ (f_Loss_gradientOf kd pr lb).toInt ≤ 100000 := by
  unfold f_Loss_gradientOf
  by_cases h1 : kd = 1
  · rw [if_pos h1]
    by_cases h2 : f_Loss_sideOf lb * pr < 100
    · rw [if_pos h2]
      rcases hq_side_in lb with e | e
      · rw [e]; decide
      · rw [e]; decide
    · rw [if_neg h2]; decide
  · rw [if_neg h1]
    by_cases h2 : kd = 2
    · rw [if_pos h2]
      by_cases h3 : pr - lb ≤ 0
      · rw [if_pos h3]
        by_cases h4 : 0 ≤ pr - lb
        · rw [if_pos h4]; decide
        · rw [if_neg h4]; decide
      · rw [if_neg h3]; decide
    · rw [if_neg h2]
      obtain ⟨a, b, _⟩ := hq_clip_bd (v := Int32.toInt64 (pr - lb)) (m0 := 100000) (k := 100000) (by decide) (by decide)
      rw [Jvm.Kit.i32_of_i64 (by omega) (by omega)]
      exact ⟨a, b⟩
theorem hq_inv_tch {ru : Int32} {n : Nat} (hn : hq_pow n) {kd lb : Int32} {T : List (Int32 × Int32)} (ht : hq_tok T) : ∀ m S, hq_inv ru n S.2.1 S.2.2 → hq_inv ru n (hq_tch ru n kd lb T m S).2.1 (hq_tch ru n kd lb T m S).2.2 := by
  intro m
  induction m with
  | zero => intro S h; exact h
  | succ m ih =>
    intro S h
    obtain ⟨g0, g1⟩ := hq_grad_in kd (hq_prdL S.1 n T) lb
    exact ih _ (hq_inv_mvL hn g0 g1 T S ht h)
theorem hq_tch_go {ru : Int32} {n : Nat} {kd lb : Int32} {T : List (Int32 × Int32)} {m m1 : Nat} {S : (Nat → Int32) × (Nat → Int64) × (Nat → Int64)} (h : m1 < m) : hq_tch ru n kd lb T (m - m1) S = hq_tch ru n kd lb T (m - (m1 + 1)) (hq_mvL ru n (f_Loss_gradientOf kd (hq_prdL S.1 n T) lb) T S) := by
  rw [show m - m1 = (m - (m1 + 1)) + 1 by omega]
  rfl
theorem hq_tch_end {ru : Int32} {n : Nat} {kd lb : Int32} {T : List (Int32 × Int32)} {m m1 : Nat} {S : (Nat → Int32) × (Nat → Int64) × (Nat → Int64)} (h : ¬ m1 < m) : hq_tch ru n kd lb T (m - m1) S = S := by
  rw [show m - m1 = 0 by omega]
  rfl
