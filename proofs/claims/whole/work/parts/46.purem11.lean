theorem hq_hold_at {T : List (Int32 × Int32)} {th tv : Nat → Int32} {j : Nat} (hj : j < T.length) : (hq_wr upd th 0 (T.map Prod.fst)) j = (T.getD j (0, 0)).1 ∧ (hq_wr upd tv 0 (T.map Prod.snd)) j = (T.getD j (0, 0)).2 := by
  have h := hq_hold_wr T th tv j hj
  rw [Nat.zero_add] at h
  exact h
/-- the lines of the ring move down by one -/
def hq_shT (tx : Nat → Int32) : Nat → (Nat → Int32)
  | 0 => tx
  | q + 1 => hq_cpT (hq_shT tx q) (q + 1) q 100
def hq_shN (ln : Nat → Int32) : Nat → (Nat → Int32)
  | 0 => ln
  | q + 1 => upd (hq_shN ln q) q (hq_shN ln q (q + 1))
/-- a pass over the stored lines -/
def hq_pasM (ru : Int32) (n : Nat) (kd : Int32) (cl cr : Nat → Int32) (nc : Nat) (lbk : Nat → Int32) (mk : Nat → Nat) (Lk : Nat → List (Int32 × Int32 × Int32)) : Nat → Nat → (Nat → Int64) × (Nat → Int64) × (Nat → Int64) → (Nat → Int64) × (Nat → Int64) × (Nat → Int64)
  | _, 0, S => S
  | k, m + 1, S => hq_pasM ru n kd cl cr nc lbk mk Lk (k + 1) m (hq_lrnL ru n kd (lbk k) (hq_TL (Lk k) cl cr nc) (mk k) S)
section HQPM
variable {ru : Int32} {n : Nat} {kd : Int32} {cl cr : Nat → Int32} {nc : Nat} {lbk : Nat → Int32} {mk : Nat → Nat} {Lk : Nat → List (Int32 × Int32 × Int32)} {k j : Nat} {S : (Nat → Int64) × (Nat → Int64) × (Nat → Int64)}
theorem hq_pasM_go (h : k < j) : hq_pasM ru n kd cl cr nc lbk mk Lk k (j - k) S = hq_pasM ru n kd cl cr nc lbk mk Lk (k + 1) (j - (k + 1)) (hq_lrnL ru n kd (lbk k) (hq_TL (Lk k) cl cr nc) (mk k) S) := by
  rw [show j - k = (j - (k + 1)) + 1 by omega]
  rfl
theorem hq_pasM_end (h : ¬ k < j) : hq_pasM ru n kd cl cr nc lbk mk Lk k (j - k) S = S := by
  rw [show j - k = 0 by omega]
  rfl
end HQPM
/-- what learning keeps -/
theorem hq_invM_mm1 {ru : Int32} {n a : Nat} {x d : Int64} {S : (Nat → Int64) × (Nat → Int64) × (Nat → Int64)} (h : hq_invM ru n S.2.1 S.2.2) (ha : a < n) (d0 : -100000000 ≤ d.toInt) (d1 : d.toInt ≤ 100000000) (x0 : -99999 ≤ x.toInt) (x1 : x.toInt ≤ 99999) : hq_invM ru n (hq_mm1 ru a x d S).2.1 (hq_mm1 ru a x d S).2.2 := by
  unfold hq_mm1
  by_cases hr : ru = 0
  · rw [if_pos hr]; exact hq_invM_r0 h ha d0 d1 hr x0 x1
  · rw [if_neg hr]; exact hq_invM_r1 h ha d0 d1 hr
theorem hq_invM_mmL {ru : Int32} {n : Nat} (hn : hq_pow n) {g : Int64} (g0 : -100000 ≤ g.toInt) (g1 : g.toInt ≤ 100000) : ∀ (T : List (Int32 × Int32)) (S : (Nat → Int64) × (Nat → Int64) × (Nat → Int64)), hq_tok T → hq_invM ru n S.2.1 S.2.2 → hq_invM ru n (hq_mmL ru n g T S).2.1 (hq_mmL ru n g T S).2.2 := by
  intro T
  induction T with
  | nil => intro S _ h; exact h
  | cons x T ih =>
    intro S ht h
    obtain ⟨x0, x1⟩ := ht x List.mem_cons_self
    obtain ⟨d0, d1⟩ := hq_dM_in g0 g1 x0 x1
    exact ih _ (fun y hy => ht y (List.mem_cons_of_mem _ hy)) (hq_invM_mm1 h (hq_slot_lt hn _) d0 d1 (by rw [hq_i64_32]; exact x0) (by rw [hq_i64_32]; exact x1))
theorem hq_invM_lrnL {ru : Int32} {n : Nat} (hn : hq_pow n) {kd lb : Int32} {T : List (Int32 × Int32)} (ht : hq_tok T) : ∀ m S, hq_invM ru n S.2.1 S.2.2 → hq_invM ru n (hq_lrnL ru n kd lb T m S).2.1 (hq_lrnL ru n kd lb T m S).2.2 := by
  intro m
  induction m with
  | zero => intro S h; exact h
  | succ m ih =>
    intro S h
    obtain ⟨g0, g1⟩ := hq_gradM_in kd lb (hq_prdML S.1 n T)
    exact ih _ (hq_invM_mmL hn g0 g1 T S ht h)
theorem hq_tok_TL {L : List (Int32 × Int32 × Int32)} (h : hq_ok L) (cl cr : Nat → Int32) (nc : Nat) : hq_tok (hq_TL L cl cr nc) := by
  unfold hq_TL
  apply hq_tok_tms
  intro q hq
  unfold hq_LV
  apply h.2
  rw [List.getD_eq_getElem?_getD, List.getElem?_eq_getElem hq]
  exact List.getElem_mem hq
