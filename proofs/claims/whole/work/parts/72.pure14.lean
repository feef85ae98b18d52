/-! What the law keeps between two calls: the typed line and the crossings, the lines, the tables, the accounts. -/
def hq_ln (tx ln : Nat → Int32) (p : Nat) (e : hq_Ex) : Prop := ∃ (n9 : Nat) (t9 : Nat → Int32) (L9 : List (Int32 × Int32 × Int32)), n9 ≤ 100 ∧ ln p = nI n9 ∧ (∀ q, q < n9 → tx (100 * p + q) = t9 q) ∧ (∀ q, q < n9 → hq_ch (t9 q)) ∧ hq_par t9 n9 = some (e.lab, e.lb, e.im, L9) ∧ hq_rep L9 e.fh e.fv e.fl e.k
theorem hq_ln_mv {tx ln tx' ln' : Nat → Int32} {p p' : Nat} {e : hq_Ex} (h : hq_ln tx ln p e) (hl : ln' p' = ln p) (ht : ∀ q, q < 100 → tx' (100 * p' + q) = tx (100 * p + q)) : hq_ln tx' ln' p' e := by
  obtain ⟨n9, t9, L9, h1, h2, h3, h4, h5, h6⟩ := h
  exact ⟨n9, t9, L9, h1, hl.trans h2, fun q hq => (ht q (by omega)).trans (h3 q hq), h4, h5, h6⟩
theorem hq_shT_at (tx : Nat → Int32) : ∀ r p q, q < 100 → hq_shT tx r (100 * p + q) = if p < r then tx (100 * (p + 1) + q) else tx (100 * p + q) := by
  intro r
  induction r with
  | zero => intro p q _; rw [if_neg (by omega)]; rfl
  | succ r ih =>
    intro p q hq
    show hq_cpT (hq_shT tx r) (r + 1) r 100 (100 * p + q) = _
    unfold hq_cpT
    by_cases hp : p = r
    · rw [if_pos (by omega), if_pos (show p < r + 1 by omega), show 100 * (r + 1) + (100 * p + q - 100 * r) = 100 * (r + 1) + q by omega, ih (r + 1) q hq, if_neg (by omega), hp]
    · rw [if_neg (by omega), ih p q hq]
      by_cases h : p < r
      · rw [if_pos h, if_pos (by omega)]
      · rw [if_neg h, if_neg (by omega)]
theorem hq_shN_at (ln : Nat → Int32) : ∀ r p, hq_shN ln r p = if p < r then ln (p + 1) else ln p := by
  intro r
  induction r with
  | zero => intro p; rw [if_neg (by omega)]; rfl
  | succ r ih =>
    intro p
    show upd (hq_shN ln r) r (hq_shN ln r (r + 1)) p = _
    by_cases hp : p = r
    · rw [hp, pk_us, ih (r + 1), if_neg (by omega), if_pos (by omega)]
    · rw [pk_un hp, ih p]
      by_cases h : p < r
      · rw [if_pos h, if_pos (by omega)]
      · rw [if_neg h, if_neg (by omega)]
def hq_I1 (t : Nat → Int32) (len : Nat) (cl cr : Nat → Int32) (nc : Nat) : Prop := len ≤ 100 ∧ (∀ q, q < len → hq_ch (t q)) ∧ nc ≤ 3 ∧ hq_dist cl cr nc
def hq_I2 (od hd so : Nat) (fr sr : Nat → Option Nat) (ex : Nat → hq_Ex) (tx ln : Nat → Int32) : Prop :=
  od < 4 ∧ hd ≤ 4 ∧ so ≤ 16 ∧ (∀ j, j < 4 → fr j = some (ex j).x) ∧ (∀ j, j < 16 → sr j = some (ex (4 + j)).x) ∧ (∀ j, j < 20 → (ex j).k ≤ 12) ∧ (∀ p, p < hd → hq_ln tx ln p (ex ((od + p) % 4))) ∧ (∀ k, k < so → hq_ln tx ln (4 + k) (ex (4 + k)) ∧ (ex (4 + k)).lab = true)
section HQL14
variable {od hd so : Nat} {fr sr : Nat → Option Nat} {ex : Nat → hq_Ex} {tx ln t : Nat → Int32} {len : Nat} {e : hq_Ex}
theorem hq_cpY_ne {j p q : Nat} (hlen : len ≤ 100) (hp : ¬ p = j) (hq : q < 100) : hq_cpY tx t j len (100 * p + q) = tx (100 * p + q) := by
  unfold hq_cpY
  rw [if_neg (by omega)]
theorem hq_I2_put (h : hq_I2 od hd so fr sr ex tx ln) (hh : hd < 4) (hlen : len ≤ 100) (hx : e.x = (ex ((od + hd) % 4)).x) (hk : e.k ≤ 12) : hq_I2 od hd so fr sr (hq_exu ex ((od + hd) % 4) e) (hq_cpY tx t hd len) (upd ln hd (nI len)) := by
  obtain ⟨h1, h2, h3, h4, h5, h6, h7, h8⟩ := h
  refine ⟨h1, h2, h3, fun j hj => ?_, fun j hj => ?_, fun j hj => ?_, fun p hp => ?_, fun k hk2 => ?_⟩
  · by_cases q : j = (od + hd) % 4
    · rw [h4 j hj, q, hq_exu_at, hx]
    · rw [hq_exu_ne q]; exact h4 j hj
  · rw [hq_exu_ne (by omega)]; exact h5 j hj
  · by_cases q : j = (od + hd) % 4
    · rw [q, hq_exu_at]; exact hk
    · rw [hq_exu_ne q]; exact h6 j hj
  · rw [hq_exu_ne (by omega)]
    exact hq_ln_mv (h7 p hp) (pk_un (by omega)) (fun q hq => hq_cpY_ne hlen (by omega) hq)
  · rw [hq_exu_ne (by omega)]
    exact ⟨hq_ln_mv (h8 k hk2).1 (pk_un (by omega)) (fun q hq => hq_cpY_ne hlen (by omega) hq), (h8 k hk2).2⟩
theorem hq_I2_add {L9 : List (Int32 × Int32 × Int32)} (h : hq_I2 od hd so fr sr ex tx ln) (hh : hd < 4) (hlen : len ≤ 100) (ht : ∀ q, q < len → hq_ch (t q)) (hx : e.x = (ex ((od + hd) % 4)).x) (hk : e.k ≤ 12) (hp : hq_par t len = some (e.lab, e.lb, e.im, L9)) (hr : hq_rep L9 e.fh e.fv e.fl e.k) : hq_I2 od (hd + 1) so fr sr (hq_exu ex ((od + hd) % 4) e) (hq_cpY tx t hd len) (upd ln hd (nI len)) := by
  obtain ⟨h1, h2, h3, h4, h5, h6, h7, h8⟩ := hq_I2_put (t := t) h hh hlen hx hk
  refine ⟨h1, by omega, h3, h4, h5, h6, fun p hp2 => ?_, h8⟩
  by_cases q : p = hd
  · rw [q, hq_exu_at]
    exact ⟨len, t, L9, hlen, pk_us, hq_cpY_at, ht, hp, hr⟩
  · exact h7 p (by omega)
theorem hq_I2_go (h : hq_I2 od hd so fr sr ex tx ln) (hh : 0 < hd) : hq_I2 ((od + 1) % 4) (hd - 1) so fr sr ex (hq_shT tx (hd - 1)) (hq_shN ln (hd - 1)) := by
  obtain ⟨h1, h2, h3, h4, h5, h6, h7, h8⟩ := h
  refine ⟨Nat.mod_lt _ (by omega), by omega, h3, h4, h5, h6, fun p hp => ?_, fun k hk => ⟨?_, (h8 k hk).2⟩⟩
  · have e1 : ((od + 1) % 4 + p) % 4 = (od + (p + 1)) % 4 := by omega
    rw [e1]
    exact hq_ln_mv (h7 (p + 1) (by omega)) (by rw [hq_shN_at, if_pos hp]) (fun q hq => by rw [hq_shT_at _ _ _ _ hq, if_pos hp])
  · exact hq_ln_mv (h8 k hk).1 (by rw [hq_shN_at, if_neg (by omega)]) (fun q hq => by rw [hq_shT_at _ _ _ _ hq, if_neg (by omega)])
/-- the oldest example and a blank one change places -/
def hq_exs (ex : Nat → hq_Ex) (a b : Nat) : Nat → hq_Ex := fun i => if i = a then ex b else if i = b then ex a else ex i
theorem hq_exs_a {a b : Nat} : hq_exs ex a b a = ex b := by unfold hq_exs; rw [if_pos rfl]
theorem hq_exs_b {a b : Nat} (h : ¬ b = a) : hq_exs ex a b b = ex a := by unfold hq_exs; rw [if_neg h, if_pos rfl]
theorem hq_exs_ne {a b i : Nat} (h1 : ¬ i = a) (h2 : ¬ i = b) : hq_exs ex a b i = ex i := by unfold hq_exs; rw [if_neg h1, if_neg h2]
theorem hq_cpT_at {i j p q : Nat} (hq : q < 100) : hq_cpT tx i j 100 (100 * p + q) = if p = j then tx (100 * i + q) else tx (100 * p + q) := by
  unfold hq_cpT
  by_cases h : p = j
  · rw [if_pos (by omega), if_pos h, show 100 * i + (100 * p + q - 100 * j) = 100 * i + q by omega]
  · rw [if_neg (by omega), if_neg h]
theorem hq_I2_st (h : hq_I2 od hd so fr sr ex tx ln) (hh : 0 < hd) (hso : so < 16) (hlab : (ex od).lab = true) : hq_I2 ((od + 1) % 4) (hd - 1) (so + 1) (va_up fr od (some (ex (4 + so)).x)) (va_up sr so (some (ex od).x)) (hq_exs ex od (4 + so)) (hq_shT (hq_cpT tx 0 (4 + so) 100) (hd - 1)) (hq_shN (upd ln (4 + so) (ln 0)) (hd - 1)) := by
  obtain ⟨h1, h2, h3, h4, h5, h6, h7, h8⟩ := h
  refine ⟨Nat.mod_lt _ (by omega), by omega, by omega, fun j hj => ?_, fun j hj => ?_, fun j hj => ?_, fun p hp => ?_, fun k hk => ?_⟩
  · by_cases q : j = od
    · rw [q, va_up_self, hq_exs_a]
    · rw [va_up_ne _ _ q, hq_exs_ne q (by omega)]; exact h4 j hj
  · by_cases q : j = so
    · rw [q, va_up_self, hq_exs_b (by omega)]
    · rw [va_up_ne _ _ q, hq_exs_ne (by omega) (by omega)]; exact h5 j hj
  · by_cases q : j = od
    · rw [q, hq_exs_a]; exact h6 _ (by omega)
    · by_cases q2 : j = 4 + so
      · rw [q2, hq_exs_b (by omega)]; exact h6 _ (by omega)
      · rw [hq_exs_ne q q2]; exact h6 j hj
  · have e1 : ((od + 1) % 4 + p) % 4 = (od + (p + 1)) % 4 := by omega
    rw [e1, hq_exs_ne (by omega) (by omega)]
    refine hq_ln_mv (h7 (p + 1) (by omega)) (by rw [hq_shN_at, if_pos hp]; exact pk_un (by omega)) (fun q hq => ?_)
    rw [hq_shT_at _ _ _ _ hq, if_pos hp, hq_cpT_at hq, if_neg (by omega)]
  · by_cases q : k = so
    · rw [q, hq_exs_b (by omega)]
      have h0 := h7 0 hh
      rw [show (od + 0) % 4 = od by omega] at h0
      refine ⟨hq_ln_mv h0 (by rw [hq_shN_at, if_neg (by omega)]; exact pk_us) (fun r hr => ?_), hlab⟩
      rw [hq_shT_at _ _ _ _ hr, if_neg (by omega), hq_cpT_at hr, if_pos rfl]
    · rw [hq_exs_ne (by omega) (by omega)]
      refine ⟨hq_ln_mv (h8 k (by omega)).1 (by rw [hq_shN_at, if_neg (by omega)]; exact pk_un (by omega)) (fun r hr => ?_), (h8 k (by omega)).2⟩
      rw [hq_shT_at _ _ _ _ hr, if_neg (by omega), hq_cpT_at hr, if_neg (by omega)]
theorem hq_pool_sw {G : Nat → ClassId} {is : List Nat} {a b : Nat} (hn : is.Nodup) (ha : a ∈ is) (hb : b ∈ is) (hne : ¬ b = a) : (hq_pool G (hq_exs ex a b) is).Perm (hq_exc G (ex a) ++ (hq_exc G (ex b) ++ hq_pool G ex ((is.erase a).erase b))) := by
  have h := hq_pool_two (G := G) (ex := hq_exs ex a b) hn ha hb hne
  rw [hq_exs_a, hq_exs_b hne] at h
  have hn2 : (is.erase a).Nodup := hn.erase a
  rw [hq_pool_co (ex' := ex) ((is.erase a).erase b) (fun i hi => by
    have q1 := (List.Nodup.mem_erase_iff hn2).mp hi
    have q2 := (List.Nodup.mem_erase_iff hn).mp q1.2
    exact hq_exs_ne q2.1 q1.1)] at h
  refine h.trans ?_
  rw [← List.append_assoc, ← List.append_assoc]
  exact List.perm_append_comm.append_right _
end HQL14
/-- the tables -/
def hq_sf (f : Nat → Int64) (o : Nat) : Nat → Int64 := fun a => f (o + a)
def hq_tb (n : Nat) (ru : Int32) (w : Nat → Int32) (su sc W S C : Nat → Int64) : Prop := hq_inv ru n su sc ∧ hq_tabR n (w, su, sc) (W, S, C)
def hq_I3 (n : Nat) (ru : Int32) (wt : Nat → Int32) (su sc : Nat → Int64) (wt8 : Nat → Int32) (su8 sc8 : Nat → Int64) (wt9 : Nat → Int32) (su9 sc9 : Nat → Int64) (Wt Su Sc : Nat → Int64) : Prop :=
  hq_pow n ∧ (ru = 0 ∨ ru = 1) ∧ hq_tb n ru wt su sc Wt Su Sc ∧ hq_tb n ru wt8 su8 sc8 (hq_sf Wt 32) (hq_sf Su 32) (hq_sf Sc 32) ∧ hq_tb n ru wt9 su9 sc9 (hq_sf Wt 64) (hq_sf Su 64) (hq_sf Sc 64)
theorem hq_tb_co {n : Nat} {ru : Int32} {w w' : Nat → Int32} {su sc V S C su' sc' V' S' C' : Nat → Int64} (h : hq_tb n ru w su sc V S C) (e : ∀ a, a < n → w' a = w a ∧ su' a = su a ∧ sc' a = sc a ∧ V' a = V a ∧ S' a = S a ∧ C' a = C a) : hq_tb n ru w' su' sc' V' S' C' := by
  refine ⟨fun a ha => ?_, fun a ha => ?_⟩
  · obtain ⟨_, e2, e3, _⟩ := e a ha
    rw [e2, e3]; exact h.1 a ha
  · obtain ⟨e1, e2, e3, e4, e5, e6⟩ := e a ha
    show V' a = Int32.toInt64 (w' a) ∧ S' a = su' a ∧ C' a = sc' a ∧ _ ≤ (w' a).toInt ∧ (w' a).toInt ≤ _
    rw [e1, e2, e3, e4, e5, e6]
    exact h.2 a ha
section HQT14
variable {n : Nat} {ru : Int32} {wt wt8 wt9 : Nat → Int32} {su sc su8 sc8 su9 sc9 Wt Su Sc : Nat → Int64}
theorem hq_cpy_at {α : Type} {f g : Nat → α} {a : Nat} (h : a < n) : va_cpy f g 0 0 n a = f a := by
  unfold va_cpy
  rw [if_pos (by omega), show 0 + (a - 0) = a by omega]
theorem hq_cpL_in {f : Nat → Int64} {x y a : Nat} (h : a < 32) : hq_cpL f x y 32 (y + a) = f (x + a) := by
  unfold hq_cpL
  rw [if_pos (by omega), show x + (y + a - y) = x + a by omega]
theorem hq_cpL_out {f : Nat → Int64} {x y p : Nat} (h : p < y ∨ y + 32 ≤ p) : hq_cpL f x y 32 p = f p := by
  unfold hq_cpL
  rw [if_neg (by omega)]
theorem hq_I3_s0 (h : hq_I3 n ru wt su sc wt8 su8 sc8 wt9 su9 sc9 Wt Su Sc) : hq_I3 n ru wt su sc (va_cpy wt wt8 0 0 n) (va_cpy su su8 0 0 n) (va_cpy sc sc8 0 0 n) wt9 su9 sc9 (hq_cpL Wt 0 (32 + 32 * 0) 32) (hq_cpL Su 0 (32 + 32 * 0) 32) (hq_cpL Sc 0 (32 + 32 * 0) 32) := by
  obtain ⟨hn, hr, a, b, c⟩ := h
  have hn2 := hq_pow_96 hn
  refine ⟨hn, hr, hq_tb_co a (fun q hq => ?_), hq_tb_co a (fun q hq => ?_), hq_tb_co c (fun q hq => ?_)⟩
  · rw [hq_cpL_out (by omega), hq_cpL_out (by omega), hq_cpL_out (by omega)]; exact ⟨rfl, rfl, rfl, rfl, rfl, rfl⟩
  · have k : ∀ f : Nat → Int64, hq_sf (hq_cpL f 0 (32 + 32 * 0) 32) 32 q = f q := fun f => by
      show hq_cpL f 0 (32 + 32 * 0) 32 (32 + 32 * 0 + q) = f q
      rw [hq_cpL_in (by omega), Nat.zero_add]
    rw [hq_cpy_at hq, hq_cpy_at hq, hq_cpy_at hq, k, k, k]; exact ⟨rfl, rfl, rfl, rfl, rfl, rfl⟩
  · have k : ∀ f : Nat → Int64, hq_sf (hq_cpL f 0 (32 + 32 * 0) 32) 64 q = hq_sf f 64 q := fun f => hq_cpL_out (by omega)
    rw [k, k, k]; exact ⟨rfl, rfl, rfl, rfl, rfl, rfl⟩
theorem hq_I3_s1 (h : hq_I3 n ru wt su sc wt8 su8 sc8 wt9 su9 sc9 Wt Su Sc) : hq_I3 n ru wt su sc wt8 su8 sc8 (va_cpy wt wt9 0 0 n) (va_cpy su su9 0 0 n) (va_cpy sc sc9 0 0 n) (hq_cpL Wt 0 (32 + 32 * 1) 32) (hq_cpL Su 0 (32 + 32 * 1) 32) (hq_cpL Sc 0 (32 + 32 * 1) 32) := by
  obtain ⟨hn, hr, a, b, c⟩ := h
  have hn2 := hq_pow_96 hn
  refine ⟨hn, hr, hq_tb_co a (fun q hq => ?_), hq_tb_co b (fun q hq => ?_), hq_tb_co a (fun q hq => ?_)⟩
  · rw [hq_cpL_out (by omega), hq_cpL_out (by omega), hq_cpL_out (by omega)]; exact ⟨rfl, rfl, rfl, rfl, rfl, rfl⟩
  · have k : ∀ f : Nat → Int64, hq_sf (hq_cpL f 0 (32 + 32 * 1) 32) 32 q = hq_sf f 32 q := fun f => hq_cpL_out (by omega)
    rw [k, k, k]; exact ⟨rfl, rfl, rfl, rfl, rfl, rfl⟩
  · have k : ∀ f : Nat → Int64, hq_sf (hq_cpL f 0 (32 + 32 * 1) 32) 64 q = f q := fun f => by
      show hq_cpL f 0 (32 + 32 * 1) 32 (32 + 32 * 1 + q) = f q
      rw [hq_cpL_in (by omega), Nat.zero_add]
    rw [hq_cpy_at hq, hq_cpy_at hq, hq_cpy_at hq, k, k, k]; exact ⟨rfl, rfl, rfl, rfl, rfl, rfl⟩
theorem hq_I3_l0 (h : hq_I3 n ru wt su sc wt8 su8 sc8 wt9 su9 sc9 Wt Su Sc) : hq_I3 n ru (va_cpy wt8 wt 0 0 n) (va_cpy su8 su 0 0 n) (va_cpy sc8 sc 0 0 n) wt8 su8 sc8 wt9 su9 sc9 (hq_cpL Wt (32 + 32 * 0) 0 32) (hq_cpL Su (32 + 32 * 0) 0 32) (hq_cpL Sc (32 + 32 * 0) 0 32) := by
  obtain ⟨hn, hr, a, b, c⟩ := h
  have hn2 := hq_pow_96 hn
  have ko : ∀ (f : Nat → Int64) (o q : Nat), 32 ≤ o → hq_sf (hq_cpL f (32 + 32 * 0) 0 32) o q = hq_sf f o q := fun f o q ho => hq_cpL_out (by omega)
  refine ⟨hn, hr, hq_tb_co b (fun q hq => ?_), hq_tb_co b (fun q hq => ?_), hq_tb_co c (fun q hq => ?_)⟩
  · have k : ∀ f : Nat → Int64, hq_cpL f (32 + 32 * 0) 0 32 q = hq_sf f 32 q := fun f => by
      have := hq_cpL_in (f := f) (x := 32 + 32 * 0) (y := 0) (a := q) (by omega)
      rw [Nat.zero_add] at this
      exact this
    rw [hq_cpy_at hq, hq_cpy_at hq, hq_cpy_at hq, k, k, k]; exact ⟨rfl, rfl, rfl, rfl, rfl, rfl⟩
  · rw [ko _ _ _ (by omega), ko _ _ _ (by omega), ko _ _ _ (by omega)]; exact ⟨rfl, rfl, rfl, rfl, rfl, rfl⟩
  · rw [ko _ _ _ (by omega), ko _ _ _ (by omega), ko _ _ _ (by omega)]; exact ⟨rfl, rfl, rfl, rfl, rfl, rfl⟩
theorem hq_I3_l1 (h : hq_I3 n ru wt su sc wt8 su8 sc8 wt9 su9 sc9 Wt Su Sc) : hq_I3 n ru (va_cpy wt9 wt 0 0 n) (va_cpy su9 su 0 0 n) (va_cpy sc9 sc 0 0 n) wt8 su8 sc8 wt9 su9 sc9 (hq_cpL Wt (32 + 32 * 1) 0 32) (hq_cpL Su (32 + 32 * 1) 0 32) (hq_cpL Sc (32 + 32 * 1) 0 32) := by
  obtain ⟨hn, hr, a, b, c⟩ := h
  have hn2 := hq_pow_96 hn
  have ko : ∀ (f : Nat → Int64) (o q : Nat), 32 ≤ o → hq_sf (hq_cpL f (32 + 32 * 1) 0 32) o q = hq_sf f o q := fun f o q ho => hq_cpL_out (by omega)
  refine ⟨hn, hr, hq_tb_co c (fun q hq => ?_), hq_tb_co b (fun q hq => ?_), hq_tb_co c (fun q hq => ?_)⟩
  · have k : ∀ f : Nat → Int64, hq_cpL f (32 + 32 * 1) 0 32 q = hq_sf f 64 q := fun f => by
      have := hq_cpL_in (f := f) (x := 32 + 32 * 1) (y := 0) (a := q) (by omega)
      rw [Nat.zero_add] at this
      exact this
    rw [hq_cpy_at hq, hq_cpy_at hq, hq_cpy_at hq, k, k, k]; exact ⟨rfl, rfl, rfl, rfl, rfl, rfl⟩
  · rw [ko _ _ _ (by omega), ko _ _ _ (by omega), ko _ _ _ (by omega)]; exact ⟨rfl, rfl, rfl, rfl, rfl, rfl⟩
  · rw [ko _ _ _ (by omega), ko _ _ _ (by omega), ko _ _ _ (by omega)]; exact ⟨rfl, rfl, rfl, rfl, rfl, rfl⟩
end HQT14
/-! learning leaves what lies behind the table -/
section HQK14
variable {ru : Int32} {n : Nat} {kd lb : Int32} {T : List (Int32 × Int32)}
def hq_beh (n : Nat) (V V' : (Nat → Int64) × (Nat → Int64) × (Nat → Int64)) : Prop := ∀ a, n ≤ a → V'.1 a = V.1 a ∧ V'.2.1 a = V.2.1 a ∧ V'.2.2 a = V.2.2 a
theorem hq_beh_t {V V' V'' : (Nat → Int64) × (Nat → Int64) × (Nat → Int64)} (h1 : hq_beh n V V') (h2 : hq_beh n V' V'') : hq_beh n V V'' := fun a ha => ⟨(h2 a ha).1.trans (h1 a ha).1, (h2 a ha).2.1.trans (h1 a ha).2.1, (h2 a ha).2.2.trans (h1 a ha).2.2⟩
theorem hq_beh_1 {b : Nat} (hb : b < n) (x d : Int64) (V : (Nat → Int64) × (Nat → Int64) × (Nat → Int64)) : hq_beh n V (hq_mm1 ru b x d V) := by
  intro a ha
  have e : ¬ a = b := by omega
  unfold hq_mm1
  by_cases hr : ru = 0
  · rw [if_pos hr]
    by_cases hx : x = 0
    · rw [if_pos hx, if_pos hx]
      exact ⟨pk_uLn e, rfl, pk_uLn e⟩
    · rw [if_neg hx, if_neg hx]
      exact ⟨pk_uLn e, pk_uLn e, pk_uLn e⟩
  · rw [if_neg hr]
    exact ⟨pk_uLn e, pk_uLn e, pk_uLn e⟩
theorem hq_beh_L (hn : hq_pow n) (g : Int64) : ∀ (T : List (Int32 × Int32)) (V : (Nat → Int64) × (Nat → Int64) × (Nat → Int64)), hq_beh n V (hq_mmL ru n g T V) := by
  intro T
  induction T with
  | nil => intro V a _; exact ⟨rfl, rfl, rfl⟩
  | cons x T ih => intro V; exact hq_beh_t (hq_beh_1 (hq_slot_lt hn _) _ _ V) (ih _)
theorem hq_beh_l (hn : hq_pow n) : ∀ m (V : (Nat → Int64) × (Nat → Int64) × (Nat → Int64)), hq_beh n V (hq_lrnL ru n kd lb T m V) := by
  intro m
  induction m with
  | zero => intro V a _; exact ⟨rfl, rfl, rfl⟩
  | succ m ih => intro V; exact hq_beh_t (hq_beh_L hn _ T V) (ih _)
theorem hq_beh_p {cl cr : Nat → Int32} {nc : Nat} {lbk : Nat → Int32} {mk : Nat → Nat} {Lk : Nat → List (Int32 × Int32 × Int32)} (hn : hq_pow n) : ∀ m k (V : (Nat → Int64) × (Nat → Int64) × (Nat → Int64)), hq_beh n V (hq_pasM ru n kd cl cr nc lbk mk Lk k m V) := by
  intro m
  induction m with
  | zero => intro k V a _; exact ⟨rfl, rfl, rfl⟩
  | succ m ih => intro k V; exact hq_beh_t (hq_beh_l hn _ V) (ih _ _)
theorem hq_tb_beh {wt8 : Nat → Int32} {su8 sc8 Wt Su Sc : Nat → Int64} {V' : (Nat → Int64) × (Nat → Int64) × (Nat → Int64)} {o : Nat} (ho : n ≤ o) (hb : hq_beh n (Wt, Su, Sc) V') (h : hq_tb n ru wt8 su8 sc8 (hq_sf Wt o) (hq_sf Su o) (hq_sf Sc o)) : hq_tb n ru wt8 su8 sc8 (hq_sf V'.1 o) (hq_sf V'.2.1 o) (hq_sf V'.2.2 o) := by
  refine hq_tb_co h (fun a ha => ?_)
  obtain ⟨e1, e2, e3⟩ := hb (o + a) (by omega)
  exact ⟨rfl, rfl, rfl, e1, e2, e3⟩
/-- a pass: both sides -/
theorem hq_tabR_p {cl cr : Nat → Int32} {nc so : Nat} {ex : Nat → hq_Ex} {mk : Nat → Nat} {lbk : Nat → Int32} {Lk : Nat → List (Int32 × Int32 × Int32)} (hn : hq_pow n) (hr : ru = 0 ∨ ru = 1) (hk : kd = 0 ∨ kd = 1 ∨ kd = 2)
    (hE : ∀ k, k < so → (ex (4 + k)).lb = lbk k ∧ (-99999 ≤ (lbk k).toInt ∧ (lbk k).toInt ≤ 99999) ∧ hq_tms (ex (4 + k)).fh (ex (4 + k)).fv (ex (4 + k)).fl (ex (4 + k)).k cl cr nc = hq_TL (Lk k) cl cr nc ∧ hq_tok (hq_TL (Lk k) cl cr nc)) :
    ∀ m k (S : (Nat → Int32) × (Nat → Int64) × (Nat → Int64)) (V : (Nat → Int64) × (Nat → Int64) × (Nat → Int64)), k + m ≤ so → hq_inv ru n S.2.1 S.2.2 → hq_tabR n S V → hq_inv ru n (hq_pasH ru n kd cl cr nc ex mk k m S).2.1 (hq_pasH ru n kd cl cr nc ex mk k m S).2.2 ∧ hq_tabR n (hq_pasH ru n kd cl cr nc ex mk k m S) (hq_pasM ru n kd cl cr nc lbk mk Lk k m V) := by
  intro m
  induction m with
  | zero => intro k S V _ hi h; exact ⟨hi, h⟩
  | succ m ih =>
    intro k S V hkm hi h
    obtain ⟨e1, ⟨l0, l1⟩, e2, ht⟩ := hE k (by omega)
    have g1 := hq_inv_tch (kd := kd) (lb := lbk k) hn ht (mk k) S hi
    have g2 := hq_tabR_t hn hr hk l0 l1 ht (mk k) S V hi h
    show hq_inv ru n (hq_pasH ru n kd cl cr nc ex mk (k + 1) m (hq_tch ru n kd (ex (4 + k)).lb (hq_tms (ex (4 + k)).fh (ex (4 + k)).fv (ex (4 + k)).fl (ex (4 + k)).k cl cr nc) (mk k) S)).2.1 (hq_pasH ru n kd cl cr nc ex mk (k + 1) m (hq_tch ru n kd (ex (4 + k)).lb (hq_tms (ex (4 + k)).fh (ex (4 + k)).fv (ex (4 + k)).fl (ex (4 + k)).k cl cr nc) (mk k) S)).2.2 ∧ hq_tabR n (hq_pasH ru n kd cl cr nc ex mk (k + 1) m (hq_tch ru n kd (ex (4 + k)).lb (hq_tms (ex (4 + k)).fh (ex (4 + k)).fv (ex (4 + k)).fl (ex (4 + k)).k cl cr nc) (mk k) S)) (hq_pasM ru n kd cl cr nc lbk mk Lk (k + 1) m (hq_lrnL ru n kd (lbk k) (hq_TL (Lk k) cl cr nc) (mk k) V))
    rw [e1, e2]
    exact ih (k + 1) _ _ (by omega) g1 g2
end HQK14
def hq_I4 (ec : Nat) (es : Int32) (is : Int64) (rc : Nat) : Prop := es = nI ec ∧ hq_isok ec is ∧ rc = hq_np ec
def hq_I5 (b8 b9 : Nat) (kd : Int32) (mm : Nat → Option Nat) (sv : Nat → Int32) : Prop := (kd = 0 ∨ kd = 1 ∨ kd = 2) ∧ mm 0 = some b8 ∧ mm 1 = some b9 ∧ (sv 0 = 0 ∨ sv 0 = 1) ∧ (sv 1 = 0 ∨ sv 1 = 1)
theorem hq_I4_s {ec m rc : Nat} {es : Int32} {tt cs is co : Int64} {rp : Nat → Int64} (h : hq_I4 ec es is rc) (hn : ec < 512) (m0 : 1 ≤ m) (m1 : m ≤ 5) : hq_I4 (ec + 1) (es + 1) (f_Tally_count_o5 rp rc tt es cs is co (nI m)) (f_Tally_count_o1 rp rc tt es cs is co (nI m)) := by
  obtain ⟨rfl, h2, rfl⟩ := h
  exact ⟨(nI_succ ec).symm, hq_isok_s h2 (by omega) m0 m1, hq_np_s hn⟩
theorem hq_I4_u {ec m rc : Nat} {es : Int32} {is : Int64} (h : hq_I4 ec es is rc) (hn : ec < 512) (m0 : 1 ≤ m) (m1 : m ≤ 5) : rc < 12 ∧ ¬ (es + 1) ≤ 0 ∧ ¬ (is + (Int32.toInt64 (nI m))) ≤ 0 ∧ ¬ (is + (Int32.toInt64 (nI m))) = 0 := by
  obtain ⟨rfl, h2, rfl⟩ := h
  have h10 := hq_np_10 (n := ec) (by omega)
  obtain ⟨a, b, _⟩ := hq_isok_im h2 (by omega) m0 m1
  refine ⟨by omega, ?_, a, b⟩
  rw [← nI_succ]
  exact Int32.not_le.mpr ((nI_ltI (a := 0) (b := ec + 1) (by omega) (by omega)).mpr (by omega))
/-- the terms of a line that was read -/
theorem hq_ln_use {tx ln cl cr : Nat → Int32} {p nc : Nat} {e : hq_Ex} (h : hq_ln tx ln p e) (hnc : nc ≤ 3) (hd : hq_dist cl cr nc) : ∃ (n9 : Nat) (t9 : Nat → Int32) (L9 : List (Int32 × Int32 × Int32)) (mI : Nat), n9 ≤ 100 ∧ ln p = nI n9 ∧ (∀ q, q < n9 → tx (100 * p + q) = t9 q) ∧ (∀ q, q < n9 → hq_ch (t9 q)) ∧ hq_par t9 n9 = some (e.lab, e.lb, e.im, L9) ∧ hq_rep L9 e.fh e.fv e.fl e.k ∧ e.k ≤ 12 ∧ (hq_tms e.fh e.fv e.fl e.k cl cr nc).length ≤ 113 ∧ (hq_TL L9 cl cr nc).length ≤ 113 ∧ hq_tok (hq_tms e.fh e.fv e.fl e.k cl cr nc) ∧ hq_tms e.fh e.fv e.fl e.k cl cr nc = hq_TL L9 cl cr nc ∧ (-99999 ≤ e.lb.toInt ∧ e.lb.toInt ≤ 99999) ∧ 1 ≤ mI ∧ mI ≤ 5 ∧ e.im = nI mI := by
  obtain ⟨n9, t9, L9, h1, h2, h3, h4, h5, h6⟩ := h
  obtain ⟨hb, mI, m0, m1, hm⟩ := hq_par_hd h5
  have hok := hq_par_ok h5
  have hk : e.k ≤ 12 := by rw [← h6.1]; exact hok.1
  have e1 := hq_tms_rep (cl := cl) (cr := cr) (nc := nc) h6
  have hl := hq_tms_len (fh := e.fh) (fv := e.fv) (fl := e.fl) hk hnc hd
  have ht := hq_tok_TL hok cl cr nc
  exact ⟨n9, t9, L9, mI, h1, h2, h3, h4, h5, h6, hk, hl, by rw [← e1]; exact hl, by rw [e1]; exact ht, e1, hb, m0, m1, hm⟩
theorem hq_two (x : Int32) : (x < 0 ∨ 1 < x) ∨ x = nI 0 ∨ x = nI 1 := by
  by_cases h1 : x < 0
  · exact Or.inl (Or.inl h1)
  · by_cases h2 : 1 < x
    · exact Or.inl (Or.inr h2)
    · have a1 : ¬ x.toInt < (0 : Int32).toInt := fun h => h1 (Int32.lt_iff_toInt_lt.mpr h)
      have a2 : ¬ (1 : Int32).toInt < x.toInt := fun h => h2 (Int32.lt_iff_toInt_lt.mpr h)
      have e0 : (0 : Int32).toInt = 0 := by decide
      have e1 : (1 : Int32).toInt = 1 := by decide
      have n0 : (nI 0).toInt = 0 := by decide
      have n1 : (nI 1).toInt = 1 := by decide
      rcases (show x.toInt = 0 ∨ x.toInt = 1 by omega) with h | h
      · exact Or.inr (Or.inl (Int32.toInt_inj.mp (by rw [h, n0])))
      · exact Or.inr (Or.inr (Int32.toInt_inj.mp (by rw [h, n1])))
theorem hq_I3_t {n m : Nat} {ru kd lb : Int32} {wt wt8 wt9 : Nat → Int32} {su sc su8 sc8 su9 sc9 Wt Su Sc : Nat → Int64} {T U : List (Int32 × Int32)} (h : hq_I3 n ru wt su sc wt8 su8 sc8 wt9 su9 sc9 Wt Su Sc) (hk : kd = 0 ∨ kd = 1 ∨ kd = 2) (l0 : -99999 ≤ lb.toInt) (l1 : lb.toInt ≤ 99999) (ht : hq_tok T) (e : T = U) :
    hq_I3 n ru (hq_tch ru n kd lb T m (wt, su, sc)).1 (hq_tch ru n kd lb T m (wt, su, sc)).2.1 (hq_tch ru n kd lb T m (wt, su, sc)).2.2 wt8 su8 sc8 wt9 su9 sc9 (hq_lrnL ru n kd lb U m (Wt, Su, Sc)).1 (hq_lrnL ru n kd lb U m (Wt, Su, Sc)).2.1 (hq_lrnL ru n kd lb U m (Wt, Su, Sc)).2.2 := by
  subst e
  obtain ⟨hn, hr, a, b, c⟩ := h
  have hn2 := hq_pow_96 hn
  have hb := hq_beh_l (ru := ru) (kd := kd) (lb := lb) (T := T) hn m (Wt, Su, Sc)
  exact ⟨hn, hr, ⟨hq_inv_tch hn ht m (wt, su, sc) a.1, hq_tabR_t hn hr hk l0 l1 ht m (wt, su, sc) (Wt, Su, Sc) a.1 a.2⟩, hq_tb_beh (by omega) hb b, hq_tb_beh (by omega) hb c⟩
