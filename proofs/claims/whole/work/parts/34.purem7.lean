/-! The terms, as the reference works them out: rows of pairs, one after another. -/
def hq_inM (fl : Nat → Int32) (lf rt : Int32) (f g : Nat) : Bool := decide (fl f = lf) && (decide (fl g = rt) && (decide (¬ lf = rt) || decide (f ≤ g)))
def hq_crM (fh fv fl : Nat → Int32) (k : Nat) (lf rt : Int32) : Nat → Nat → List (Int32 × Int32)
  | _, 0 => []
  | q, n + 1 => if hq_inM fl lf rt (q / k) (q % k) = true then hq_tm fh fv (q / k) (q % k) :: hq_crM fh fv fl k lf rt (q + 1) n else hq_crM fh fv fl k lf rt (q + 1) n
def hq_rowM (fh fv fl : Nat → Int32) (lf rt : Int32) (f : Nat) : Nat → Nat → List (Int32 × Int32)
  | _, 0 => []
  | g, n + 1 => if hq_inM fl lf rt f g = true then hq_tm fh fv f g :: hq_rowM fh fv fl lf rt f (g + 1) n else hq_rowM fh fv fl lf rt f (g + 1) n
section HQM7
variable {fh fv fl : Nat → Int32} {k j q f g : Nat} {lf rt : Int32}
theorem hq_crM_yes (h : q < j) (hc : hq_inM fl lf rt (q / k) (q % k) = true) : hq_crM fh fv fl k lf rt q (j - q) = hq_tm fh fv (q / k) (q % k) :: hq_crM fh fv fl k lf rt (q + 1) (j - (q + 1)) := by
  rw [show j - q = (j - (q + 1)) + 1 by omega]
  simp only [hq_crM, if_pos hc]
theorem hq_crM_no (h : q < j) (hc : ¬ hq_inM fl lf rt (q / k) (q % k) = true) : hq_crM fh fv fl k lf rt q (j - q) = hq_crM fh fv fl k lf rt (q + 1) (j - (q + 1)) := by
  rw [show j - q = (j - (q + 1)) + 1 by omega]
  simp only [hq_crM, if_neg hc]
theorem hq_crM_end (h : ¬ q < j) : hq_crM fh fv fl k lf rt q (j - q) = [] := by
  rw [show j - q = 0 by omega]
  rfl
/-- a row is what the class writes for f -/
theorem hq_row_off (hf : ¬ fl f = lf) : ∀ n g, hq_rowM fh fv fl lf rt f g n = [] := by
  intro n
  induction n with
  | zero => intro g; rfl
  | succ n ih =>
    intro g
    have hi : ¬ hq_inM fl lf rt f g = true := by
      unfold hq_inM
      simp [hf]
    simp only [hq_rowM, if_neg hi]
    exact ih (g + 1)
theorem hq_row_all (hf : fl f = lf) : ∀ n g, (lf = rt → f ≤ g) → hq_rowM fh fv fl lf rt f g n = hq_prs fh fv fl f rt g n := by
  intro n
  induction n with
  | zero => intro g _; rfl
  | succ n ih =>
    intro g hg
    by_cases hc : fl g = rt
    · have hi : hq_inM fl lf rt f g = true := by
        unfold hq_inM
        by_cases e : lf = rt
        · simp [hf, hc, hg e]
        · simp [hf, hc, e]
      simp only [hq_rowM, hq_prs, if_pos hi, if_pos hc]
      rw [ih (g + 1) (fun e => Nat.le_succ_of_le (hg e))]
    · have hi : ¬ hq_inM fl lf rt f g = true := by
        unfold hq_inM
        simp [hc]
      simp only [hq_rowM, hq_prs, if_neg hi, if_neg hc]
      exact ih (g + 1) (fun e => Nat.le_succ_of_le (hg e))
theorem hq_row_skip (e : lf = rt) : ∀ n g, g + n ≤ f → hq_rowM fh fv fl lf rt f g n = [] := by
  intro n
  induction n with
  | zero => intro g _; rfl
  | succ n ih =>
    intro g h
    have hi : ¬ hq_inM fl lf rt f g = true := by
      unfold hq_inM
      have : ¬ f ≤ g := by omega
      simp [e, this]
    simp only [hq_rowM, if_neg hi]
    exact ih (g + 1) (by omega)
theorem hq_row_app : ∀ a g b, hq_rowM fh fv fl lf rt f g (a + b) = hq_rowM fh fv fl lf rt f g a ++ hq_rowM fh fv fl lf rt f (g + a) b := by
  intro a
  induction a with
  | zero => intro g b; rw [Nat.zero_add, Nat.add_zero]; rfl
  | succ a ih =>
    intro g b
    rw [show a + 1 + b = (a + b) + 1 by omega]
    by_cases hi : hq_inM fl lf rt f g = true
    · simp only [hq_rowM, if_pos hi]
      rw [ih (g + 1) b, show g + 1 + a = g + (a + 1) by omega]
      rfl
    · simp only [hq_rowM, if_neg hi]
      rw [ih (g + 1) b, show g + 1 + a = g + (a + 1) by omega]
theorem hq_row_eq (hfk : f < k) : hq_rowM fh fv fl lf rt f 0 k = if fl f = lf then hq_prs0 fh fv fl k f rt else [] := by
  by_cases hf : fl f = lf
  · rw [if_pos hf]
    unfold hq_prs0
    by_cases e : lf = rt
    · rw [if_pos (hf.trans e)]
      have h1 := hq_row_app (fh := fh) (fv := fv) (fl := fl) (lf := lf) (rt := rt) (f := f) f 0 (k - f)
      rw [show f + (k - f) = k by omega, hq_row_skip e f 0 (by omega), List.nil_append, Nat.zero_add] at h1
      rw [h1]
      exact hq_row_all hf _ _ (fun _ => Nat.le_refl _)
    · rw [if_neg (fun h => e (hf.symm.trans h))]
      exact hq_row_all hf _ _ (fun h => absurd h e)
  · rw [if_neg hf]
    exact hq_row_off hf k 0
theorem hq_crM_row (hk : 0 < k) : ∀ n f g, g + n = k → f < k → hq_crM fh fv fl k lf rt (f * k + g) (k * k - (f * k + g)) = hq_rowM fh fv fl lf rt f g n ++ hq_crM fh fv fl k lf rt ((f + 1) * k) (k * k - (f + 1) * k) := by
  intro n
  induction n with
  | zero =>
    intro f g hg hf
    have e : f * k + g = (f + 1) * k := by rw [Nat.add_mul, Nat.one_mul]; omega
    rw [e]
    rfl
  | succ n ih =>
    intro f g hg hf
    have hgk : g < k := by omega
    have hlt : f * k + g < k * k := by
      have := Nat.mul_le_mul_right k (show f + 1 ≤ k from hf)
      rw [Nat.add_mul, Nat.one_mul] at this
      omega
    have e1 : (f * k + g) / k = f := by
      rw [Nat.mul_comm f k, Nat.mul_add_div hk, Nat.div_eq_of_lt hgk, Nat.add_zero]
    have e2 : (f * k + g) % k = g := by
      rw [Nat.mul_comm f k, Nat.mul_add_mod, Nat.mod_eq_of_lt hgk]
    have h2 := ih f (g + 1) (by omega) hf
    by_cases hi : hq_inM fl lf rt f g = true
    · rw [hq_crM_yes hlt (by rw [e1, e2]; exact hi), e1, e2, show f * k + g + 1 = f * k + (g + 1) by omega, h2]
      simp only [hq_rowM, if_pos hi]
      rfl
    · rw [hq_crM_no hlt (by rw [e1, e2]; exact hi), show f * k + g + 1 = f * k + (g + 1) by omega, h2]
      simp only [hq_rowM, if_neg hi]
theorem hq_crM_rows (hk : 0 < k) : ∀ n f, f + n = k → hq_crM fh fv fl k lf rt (f * k) (k * k - f * k) = hq_cr fh fv fl k lf rt f n := by
  intro n
  induction n with
  | zero =>
    intro f hf
    have e : f = k := by omega
    rw [e, Nat.sub_self]
    rfl
  | succ n ih =>
    intro f hf
    have h1 := hq_crM_row (fh := fh) (fv := fv) (fl := fl) (lf := lf) (rt := rt) hk k f 0 (by omega) (by omega)
    rw [Nat.add_zero] at h1
    rw [h1, ih (f + 1) (by omega), hq_row_eq (by omega)]
    by_cases hc : fl f = lf
    · simp only [hq_cr, if_pos hc]
    · simp only [hq_cr, if_neg hc]
      rfl
theorem hq_crM_eq : hq_crM fh fv fl k lf rt 0 (k * k - 0) = hq_cr fh fv fl k lf rt 0 k := by
  cases k with
  | zero => rfl
  | succ k =>
    have h := hq_crM_rows (fh := fh) (fv := fv) (fl := fl) (lf := lf) (rt := rt) (k := k + 1) (by omega) (k + 1) 0 (by omega)
    rw [Nat.zero_mul] at h
    exact h
end HQM7
/-- the features are in range -/
theorem hq_fx_in (t : Nat → Int32) (lt sd fc : Int32) (i j : Nat) : -99999 ≤ (hq_fx t lt sd fc i j).2.1.toInt ∧ (hq_fx t lt sd fc i j).2.1.toInt ≤ 99999 := by
  unfold hq_fx
  obtain ⟨a, b, _⟩ := hq_clip_bd (v := ((Int32.toInt64 (f_Line_readPart_o2 t i j)) * (Int32.toInt64 fc)) / 100) (m0 := 99999) (k := 99999) (by decide) (by decide)
  show -99999 ≤ (Int64.toInt32 _).toInt ∧ (Int64.toInt32 _).toInt ≤ 99999
  rw [Jvm.Kit.i32_of_i64 (by omega) (by omega)]
  exact ⟨a, b⟩
def hq_ok (L : List (Int32 × Int32 × Int32)) : Prop := L.length ≤ 12 ∧ ∀ x ∈ L, -99999 ≤ x.2.1.toInt ∧ x.2.1.toInt ≤ 99999
theorem hq_fts_ok {t : Nat → Int32} {lt sd fc : Int32} {j : Nat} : ∀ n a L L', hq_ok L → hq_fts t lt sd fc j n a L = some L' → hq_ok L' := by
  intro n
  induction n with
  | zero =>
    intro a L L' h e
    simp only [hq_fts] at e
    by_cases h1 : a = j
    · rw [if_pos h1] at e; cases e; exact h
    · rw [if_neg h1] at e; cases e
  | succ n ih =>
    intro a L L' h e
    simp only [hq_fts] at e
    by_cases h0 : j ≤ a
    · rw [if_pos h0] at e
      by_cases h1 : a = j
      · rw [if_pos h1] at e; cases e; exact h
      · rw [if_neg h1] at e; cases e
    · rw [if_neg h0] at e
      by_cases h2 : f_Line_readPart t a (hq_fnd t 32 a (j - a)) = true
      · rw [if_pos h2] at e
        by_cases h3 : L.length < 12
        · rw [if_pos h3] at e
          refine ih _ _ _ ⟨by rw [List.length_append, List.length_singleton]; omega, fun x hx => ?_⟩ e
          rcases List.mem_append.mp hx with hx | hx
          · exact h.2 x hx
          · rw [List.mem_singleton.mp hx]; exact hq_fx_in _ _ _ _ _ _
        · rw [if_neg h3] at e; cases e
      · rw [if_neg h2] at e; cases e
theorem hq_nsp_ok {t : Nat → Int32} {i j : Nat} {L L' : List (Int32 × Int32 × Int32)} (h : hq_ok L) (e : hq_nsp t i j L = some L') : hq_ok L' := by
  unfold hq_nsp at e
  cases ht : hq_ttl t i (hq_fnd t 32 i (j - i)) with
  | none => rw [ht] at e; cases e
  | some q => rw [ht] at e; exact hq_fts_ok _ _ _ _ h e
theorem hq_nss_ok {t : Nat → Int32} {len : Nat} : ∀ n b L L', hq_ok L → hq_nss t len n b L = some L' → hq_ok L' := by
  intro n
  induction n with
  | zero =>
    intro b L L' h e
    simp only [hq_nss] at e
    by_cases h1 : b = len
    · rw [if_pos h1] at e; cases e; exact h
    · rw [if_neg h1] at e; cases e
  | succ n ih =>
    intro b L L' h e
    simp only [hq_nss] at e
    by_cases h0 : len ≤ b
    · rw [if_pos h0] at e
      by_cases h1 : b = len
      · rw [if_pos h1] at e; cases e; exact h
      · rw [if_neg h1] at e; cases e
    · rw [if_neg h0] at e
      cases hn : hq_nsp t (b + 1) (hq_fnd t 124 (b + 1) (len - (b + 1))) L with
      | none => rw [hn] at e; cases e
      | some L2 => rw [hn] at e; exact ih _ _ _ (hq_nsp_ok h hn) e
theorem hq_par_ok {t : Nat → Int32} {len : Nat} {R : Bool × Int32 × Int32 × List (Int32 × Int32 × Int32)} (e : hq_par t len = some R) : hq_ok R.2.2.2 := by
  unfold hq_par at e
  by_cases h1 : f_Line_readHead t (hq_fnd t 124 0 (len - 0)) = true
  · rw [if_pos h1] at e
    by_cases h2 : len ≤ hq_fnd t 124 0 (len - 0)
    · rw [if_pos h2] at e; cases e
    · rw [if_neg h2] at e
      cases hn : hq_nss t len 4 (hq_fnd t 124 0 (len - 0)) [] with
      | none => rw [hn] at e; cases e
      | some L2 =>
        rw [hn] at e
        cases e
        exact hq_nss_ok _ _ _ _ ⟨by decide, fun x hx => by cases hx⟩ hn
  · rw [if_neg h1] at e; cases e
/-- the features of a list as arrays, and its terms -/
def hq_LH (L : List (Int32 × Int32 × Int32)) (q : Nat) : Int32 := (L.getD q (0, 0, 0)).1
def hq_LV (L : List (Int32 × Int32 × Int32)) (q : Nat) : Int32 := (L.getD q (0, 0, 0)).2.1
def hq_LL (L : List (Int32 × Int32 × Int32)) (q : Nat) : Int32 := (L.getD q (0, 0, 0)).2.2
def hq_TL (L : List (Int32 × Int32 × Int32)) (cl cr : Nat → Int32) (nc : Nat) : List (Int32 × Int32) := hq_tms (hq_LH L) (hq_LV L) (hq_LL L) L.length cl cr nc
section HQTL
variable {fh fv fl fh' fv' fl' cl cr : Nat → Int32} {k : Nat}
theorem hq_prs_co {f : Nat} {rt : Int32} (h : ∀ q, q < k → fh q = fh' q ∧ fv q = fv' q ∧ fl q = fl' q) (hf : f < k) : ∀ n g, g + n ≤ k → hq_prs fh fv fl f rt g n = hq_prs fh' fv' fl' f rt g n := by
  intro n
  induction n with
  | zero => intro g _; rfl
  | succ n ih =>
    intro g hg
    obtain ⟨a1, a2, a3⟩ := h g (by omega)
    obtain ⟨b1, b2, b3⟩ := h f hf
    have e : hq_tm fh fv f g = hq_tm fh' fv' f g := by unfold hq_tm; rw [a1, a2, b1, b2]
    simp only [hq_prs, a3, e]
    rw [ih (g + 1) (by omega)]
theorem hq_cr_co {lf rt : Int32} (h : ∀ q, q < k → fh q = fh' q ∧ fv q = fv' q ∧ fl q = fl' q) : ∀ n f, f + n ≤ k → hq_cr fh fv fl k lf rt f n = hq_cr fh' fv' fl' k lf rt f n := by
  intro n
  induction n with
  | zero => intro f _; rfl
  | succ n ih =>
    intro f hf
    obtain ⟨b1, b2, b3⟩ := h f (by omega)
    have e : hq_prs0 fh fv fl k f rt = hq_prs0 fh' fv' fl' k f rt := by
      unfold hq_prs0
      rw [b3, hq_prs_co h (by omega) (k - f) f (by omega), hq_prs_co h (by omega) (k - 0) 0 (by omega)]
    simp only [hq_cr, b3, e]
    rw [ih (f + 1) (by omega)]
theorem hq_fs_co (h : ∀ q, q < k → fh q = fh' q ∧ fv q = fv' q ∧ fl q = fl' q) : ∀ n f, f + n ≤ k → hq_fs fh fv f n = hq_fs fh' fv' f n := by
  intro n
  induction n with
  | zero => intro f _; rfl
  | succ n ih =>
    intro f hf
    obtain ⟨b1, b2, b3⟩ := h f (by omega)
    simp only [hq_fs, b1, b2]
    rw [ih (f + 1) (by omega)]
theorem hq_crs_co (h : ∀ q, q < k → fh q = fh' q ∧ fv q = fv' q ∧ fl q = fl' q) : ∀ n g, hq_crs fh fv fl k cl cr g n = hq_crs fh' fv' fl' k cl cr g n := by
  intro n
  induction n with
  | zero => intro g; rfl
  | succ n ih =>
    intro g
    simp only [hq_crs]
    rw [hq_cr_co h k 0 (by omega), ih (g + 1)]
theorem hq_tms_rep {L : List (Int32 × Int32 × Int32)} {nc : Nat} (hr : hq_rep L fh fv fl k) : hq_tms fh fv fl k cl cr nc = hq_TL L cl cr nc := by
  have h : ∀ q, q < k → fh q = hq_LH L q ∧ fv q = hq_LV L q ∧ fl q = hq_LL L q := hr.2
  unfold hq_TL
  rw [hr.1]
  unfold hq_tms
  rw [hq_fs_co h k 0 (by omega), hq_crs_co h nc 0]
theorem hq_rep_in {L : List (Int32 × Int32 × Int32)} (hr : hq_rep L fh fv fl k) (ho : hq_ok L) {q : Nat} (hq : q < k) : -99999 ≤ (fv q).toInt ∧ (fv q).toInt ≤ 99999 := by
  rw [(hr.2 q hq).2.1]
  have hl : q < L.length := by rw [hr.1]; exact hq
  have hm : L.getD q (0, 0, 0) ∈ L := by
    rw [List.getD_eq_getElem?_getD, List.getElem?_eq_getElem hl]
    exact List.getElem_mem hl
  exact ho.2 _ hm
end HQTL
theorem hq_clip_id {x : Int32} (h0 : -99999 ≤ x.toInt) (h1 : x.toInt ≤ 99999) : Int64.toInt32 (f_M_clip (Int32.toInt64 x) 99999) = x := by
  obtain ⟨_, _, _, d⟩ := hq_clip_bd (v := Int32.toInt64 x) (m0 := 99999) (k := 99999) (by decide) (by decide)
  rw [hq_clipM, d (by rw [Jvm.Kit.i64_of_i32]; omega) (by rw [Jvm.Kit.i64_of_i32]; omega)]
  exact Int32.toInt32_toInt64 x
theorem hq_in1 {fl : Nat → Int32} {lf rt : Int32} {f g : Nat} (h1 : fl f = lf) (h2 : fl g = rt) (h3 : ¬ lf = rt) : hq_inM fl lf rt f g = true := by unfold hq_inM; simp [h1, h2, h3]
theorem hq_in2 {fl : Nat → Int32} {lf rt : Int32} {f g : Nat} (h1 : fl f = lf) (h2 : fl g = rt) (h3 : ¬ g < f) : hq_inM fl lf rt f g = true := by
  have h4 : f ≤ g := by omega
  unfold hq_inM; simp [h1, h2, h4]
theorem hq_out1 {fl : Nat → Int32} {lf rt : Int32} {f g : Nat} (h1 : ¬ fl f = lf) : ¬ hq_inM fl lf rt f g = true := by unfold hq_inM; simp [h1]
theorem hq_out2 {fl : Nat → Int32} {lf rt : Int32} {f g : Nat} (h1 : ¬ fl g = rt) : ¬ hq_inM fl lf rt f g = true := by unfold hq_inM; simp [h1]
theorem hq_out3 {fl : Nat → Int32} {lf rt : Int32} {f g : Nat} (h1 : lf = rt) (h2 : g < f) : ¬ hq_inM fl lf rt f g = true := by
  have h3 : ¬ f ≤ g := by omega
  unfold hq_inM; simp [h1, h3]
