/-! Answers that are read out of tables and lists. -/
def hq_cell (xs : Nat → Int32) (L k : Nat) : Int32 := if L ≤ k then 0 else xs k
theorem hq_get_co {α : Type} {f g : Nat → α} {n : Nat} {x : Int32} {d : α} (hn : n < 2 ^ 31) (h : ∀ j, j < n → f j = g j) : hq_get f n x d = hq_get g n x d := by
  by_cases h1 : x < 0
  · rw [hq_get_neg h1, hq_get_neg h1]
  · by_cases h2 : nI n ≤ x
    · rw [hq_get_big h2, hq_get_big h2]
    · obtain ⟨j, hj, rfl⟩ := hq_ix h1 h2 hn
      rw [hq_get_in hj hn, hq_get_in hj hn]
      exact h j hj
section HQ13
variable {n : Nat} {wt : Nat → Int32} {su sc Wt Su Sc : Nat → Int64} {x : Int32}
theorem hq_get_w (hn : hq_pow n) (hR : hq_tabR n (wt, su, sc) (Wt, Su, Sc)) : hq_get wt n x 0 = Int64.toInt32 (hq_get Wt n x 0) := by
  have hn31 := hq_pow_lt hn
  by_cases h1 : x < 0
  · rw [hq_get_neg h1, hq_get_neg h1]; rfl
  · by_cases h2 : nI n ≤ x
    · rw [hq_get_big h2, hq_get_big h2]; rfl
    · obtain ⟨j, hj, rfl⟩ := hq_ix h1 h2 (by omega)
      rw [hq_get_in hj (by omega), hq_get_in hj (by omega)]
      have e : Wt j = Int32.toInt64 (wt j) := (hR j hj).1
      rw [e]
      exact (Int32.toInt32_toInt64 _).symm
theorem hq_get_s (hn : hq_pow n) (hR : hq_tabR n (wt, su, sc) (Wt, Su, Sc)) : hq_get su n x 0 = hq_get Su n x 0 := by
  have hn31 := hq_pow_lt hn
  exact hq_get_co (by omega) (fun j hj => (hR j hj).2.1.symm)
theorem hq_get_c (hn : hq_pow n) (hR : hq_tabR n (wt, su, sc) (Wt, Su, Sc)) : hq_get sc n x 0 = hq_get Sc n x 0 := by
  have hn31 := hq_pow_lt hn
  exact hq_get_co (by omega) (fun j hj => (hR j hj).2.2.1.symm)
theorem hq_get_h {L : List (Int32 × Int32 × Int32)} {fh fv fl : Nat → Int32} {k : Nat} (hr : hq_rep L fh fv fl k) (hk : k ≤ 12) : hq_get fh k x 0 = hq_get (fun j => (L.getD j (0, 0, 0)).1) L.length x 0 := by
  rw [hr.1]
  exact hq_get_co (by omega) (fun j hj => (hr.2 j hj).1)
theorem hq_prd_do {L : List (Int32 × Int32 × Int32)} {fh fv fl cl cr : Nat → Int32} {k nc : Nat} (hr : hq_rep L fh fv fl k) (hn : hq_pow n) (hR : hq_tabR n (wt, su, sc) (Wt, Su, Sc)) : hq_prdL wt n (hq_tms fh fv fl k cl cr nc) = Int64.toInt32 (hq_prdML Wt n (hq_TL L cl cr nc)) := by
  rw [hq_tms_rep hr]
  exact (hq_prd_32 hn (fun a ha => (hR a ha).1) _).symm
theorem hq_cost_do {L : List (Int32 × Int32 × Int32)} {fh fv fl cl cr : Nat → Int32} {k nc : Nat} {kd lb : Int32} (hr : hq_rep L fh fv fl k) (hn : hq_pow n) (hR : hq_tabR n (wt, su, sc) (Wt, Su, Sc)) (hk : kd = 0 ∨ kd = 1 ∨ kd = 2) (l0 : -99999 ≤ lb.toInt) (l1 : lb.toInt ≤ 99999) : f_M_cost kd lb (hq_prdML Wt n (hq_TL L cl cr nc)) = f_Loss_costOf kd (hq_prdL wt n (hq_tms fh fv fl k cl cr nc)) lb := by
  rw [hq_tms_rep hr]
  obtain ⟨e, p0, p1⟩ := hq_prd_eq hn (w := wt) (V := Wt) (fun a ha => (hR a ha).1) (hq_TL L cl cr nc)
  rw [e]
  exact hq_cost_eq hk l0 l1 p0 p1
end HQ13
theorem hq_lb_ne {lb : Int32} (l0 : -99999 ≤ lb.toInt) (l1 : lb.toInt ≤ 99999) : ¬ lb = 1000000 := by
  intro h
  rw [h] at l1
  exact absurd l1 (by decide)
