/-! What a line says: its features as a list of (hash, value, letter). -/
def hq_rep (L : List (Int32 × Int32 × Int32)) (fh fv fl : Nat → Int32) (k : Nat) : Prop := L.length = k ∧ ∀ q, q < k → fh q = (L.getD q (0, 0, 0)).1 ∧ fv q = (L.getD q (0, 0, 0)).2.1 ∧ fl q = (L.getD q (0, 0, 0)).2.2
theorem hq_rep_0 (fh fv fl : Nat → Int32) : hq_rep [] fh fv fl 0 := ⟨rfl, fun q h => absurd h (by omega)⟩
theorem hq_rep_snoc {L : List (Int32 × Int32 × Int32)} {fh fv fl : Nat → Int32} {k : Nat} {a b c : Int32} (h : hq_rep L fh fv fl k) : hq_rep (L ++ [(a, b, c)]) (upd fh k a) (upd fv k b) (upd fl k c) (k + 1) := by
  obtain ⟨h1, h2⟩ := h
  refine ⟨by rw [List.length_append, h1]; rfl, fun q hq => ?_⟩
  by_cases e : q = k
  · subst e
    rw [pk_us, pk_us, pk_us, List.getD_eq_getElem?_getD, List.getElem?_append_right (by omega), h1, Nat.sub_self]
    exact ⟨rfl, rfl, rfl⟩
  · rw [pk_un e, pk_un e, pk_un e, List.getD_eq_getElem?_getD, List.getElem?_append_left (by omega), ← List.getD_eq_getElem?_getD]
    exact h2 q (by omega)
/-- a namespace's title: letter, seed, factor -/
def hq_ttl (t : Nat → Int32) (i j : Nat) : Option (Int32 × Int32 × Int32) := if i = j then some (32, 0, 100) else if f_Line_readPart t i j = true then some (t i, hq_hash t i (hq_fnd t 58 i (j - i)) 0, f_Line_readPart_o2 t i j) else none
def hq_fx (t : Nat → Int32) (lt sd fc : Int32) (i j : Nat) : Int32 × Int32 × Int32 := (hq_hash t i (hq_fnd t 58 i (j - i)) sd, Int64.toInt32 (f_H_clip (((Int32.toInt64 (f_Line_readPart_o2 t i j)) * (Int32.toInt64 fc)) / 100) 99999), lt)
/-- the features from a on, at most n of them -/
def hq_fts (t : Nat → Int32) (lt sd fc : Int32) (j : Nat) : Nat → Nat → List (Int32 × Int32 × Int32) → Option (List (Int32 × Int32 × Int32))
  | 0, a, L => if a = j then some L else none
  | n + 1, a, L => if j ≤ a then (if a = j then some L else none) else if f_Line_readPart t a (hq_fnd t 32 a (j - a)) = true then
      (if L.length < 12 then hq_fts t lt sd fc j n (hq_skp t 32 (hq_fnd t 32 a (j - a)) (j - hq_fnd t 32 a (j - a))) (L ++ [hq_fx t lt sd fc a (hq_fnd t 32 a (j - a))]) else none) else none
def hq_nsp (t : Nat → Int32) (i j : Nat) (L : List (Int32 × Int32 × Int32)) : Option (List (Int32 × Int32 × Int32)) :=
  (hq_ttl t i (hq_fnd t 32 i (j - i))).bind (fun q => hq_fts t q.1 q.2.1 q.2.2 j 12 (hq_skp t 32 (hq_fnd t 32 i (j - i)) (j - hq_fnd t 32 i (j - i))) L)
section HQN
variable {t : Nat → Int32} {i j a n k : Nat} {ne pn lt sd fc : Int32} {fh fv fl : Nat → Int32} {L : List (Int32 × Int32 × Int32)}
theorem hq_ttl_yes (h : f_Line_readTitle t i j ne pn = true) : hq_ttl t i j = some (f_Line_readTitle_o3 t i j ne pn, f_Line_readTitle_o4 t i j ne pn, f_Line_readTitle_o5 t i j ne pn) := by
  unfold f_Line_readTitle at h
  unfold hq_ttl f_Line_readTitle_o3 f_Line_readTitle_o4 f_Line_readTitle_o5
  by_cases h1 : i = j
  · simp only [if_pos h1]
  · by_cases h2 : f_Line_readPart t i j = true
    · simp only [if_neg h1, if_pos h2]
    · rw [if_neg h1, if_neg h2] at h; cases h
theorem hq_ttl_no (h : ¬ f_Line_readTitle t i j ne pn = true) : hq_ttl t i j = none := by
  unfold f_Line_readTitle at h
  unfold hq_ttl
  by_cases h1 : i = j
  · rw [if_pos h1] at h; exact absurd rfl h
  · by_cases h2 : f_Line_readPart t i j = true
    · rw [if_neg h1, if_pos h2] at h; exact absurd rfl h
    · rw [if_neg h1, if_neg h2]
theorem hq_ttl_ch {len : Nat} (ht : ∀ q, q < len → hq_ch (t q)) (hi : i ≤ j) (hj : j ≤ len) : hq_ch (f_Line_readTitle_o3 t i j ne pn) := by
  unfold f_Line_readTitle_o3
  by_cases h1 : i = j
  · rw [if_pos h1]; exact ⟨by decide, by decide⟩
  · rw [if_neg h1]
    by_cases h2 : f_Line_readPart t i j = true
    · rw [if_pos h2]; exact ht i (by omega)
    · rw [if_neg h2]; exact ⟨by decide, by decide⟩
theorem hq_nsp_go (h : f_Line_readTitle t i (hq_fnd t 32 i (j - i)) ne pn = true) : hq_nsp t i j L = hq_fts t (f_Line_readTitle_o3 t i (hq_fnd t 32 i (j - i)) ne pn) (f_Line_readTitle_o4 t i (hq_fnd t 32 i (j - i)) ne pn) (f_Line_readTitle_o5 t i (hq_fnd t 32 i (j - i)) ne pn) j (12 - 0) (hq_skp t 32 (hq_fnd t 32 i (j - i)) (j - hq_fnd t 32 i (j - i))) L := by
  unfold hq_nsp
  rw [hq_ttl_yes h]
  rfl
theorem hq_nsp_no (h : ¬ f_Line_readTitle t i (hq_fnd t 32 i (j - i)) ne pn = true) : hq_nsp t i j L = none := by
  unfold hq_nsp
  rw [hq_ttl_no h]
  rfl
theorem hq_fts_stop (h : 12 ≤ n ∨ j ≤ a) : hq_fts t lt sd fc j (12 - n) a L = if a = j then some L else none := by
  by_cases h1 : 12 ≤ n
  · rw [show 12 - n = 0 by omega]; rfl
  · rw [show 12 - n = (12 - (n + 1)) + 1 by omega]
    have h2 : j ≤ a := by omega
    simp only [hq_fts, if_pos h2]
theorem hq_rf_yes (h : f_Line_readFeature t i j lt sd fc fh fv fl k = true) : f_Line_readPart t i j = true ∧ k < 12 ∧ f_Line_readFeature_o3 t i j lt sd fc fh fv fl k = k + 1 ∧ f_Line_readFeature_o4 t i j lt sd fc fh fv fl k = upd fh k (hq_fx t lt sd fc i j).1 ∧ f_Line_readFeature_o5 t i j lt sd fc fh fv fl k = upd fv k (hq_fx t lt sd fc i j).2.1 ∧ f_Line_readFeature_o6 t i j lt sd fc fh fv fl k = upd fl k (hq_fx t lt sd fc i j).2.2 := by
  unfold f_Line_readFeature f_Example_addFeature at h
  unfold f_Line_readFeature_o3 f_Line_readFeature_o4 f_Line_readFeature_o5 f_Line_readFeature_o6 f_Example_addFeature_o1 f_Example_addFeature_o2 f_Example_addFeature_o3 f_Example_addFeature_o4
  by_cases h1 : f_Line_readPart t i j = true
  · by_cases h2 : k < 12
    · refine ⟨h1, h2, ?_, ?_, ?_, ?_⟩
      · rw [if_pos h1, if_pos h2]
      · rw [if_pos h1, if_pos h2]; rfl
      · rw [if_pos h1, if_pos h2]; rfl
      · rw [if_pos h1, if_pos h2]; rfl
    · rw [if_pos h1, if_neg h2] at h; cases h
  · rw [if_neg h1] at h; cases h
theorem hq_rf_no (h : ¬ f_Line_readFeature t i j lt sd fc fh fv fl k = true) : ¬ f_Line_readPart t i j = true ∨ ¬ k < 12 := by
  unfold f_Line_readFeature f_Example_addFeature at h
  by_cases h1 : f_Line_readPart t i j = true
  · by_cases h2 : k < 12
    · rw [if_pos h1, if_pos h2] at h; exact absurd rfl h
    · exact Or.inr h2
  · exact Or.inl h1
theorem hq_rf_le (hk : k ≤ 12) : f_Line_readFeature_o3 t i j lt sd fc fh fv fl k ≤ 12 := by
  unfold f_Line_readFeature_o3 f_Example_addFeature_o1
  by_cases h1 : f_Line_readPart t i j = true
  · rw [if_pos h1]
    by_cases h2 : k < 12
    · rw [if_pos h2]; omega
    · rw [if_neg h2]; exact hk
  · rw [if_neg h1]; exact hk
theorem hq_fts_bad (hn : ¬ 12 ≤ n) (hj : ¬ j ≤ a) (hr : hq_rep L fh fv fl k) (h : ¬ f_Line_readFeature t a (hq_fnd t 32 a (j - a)) lt sd fc fh fv fl k = true) : hq_fts t lt sd fc j (12 - n) a L = none := by
  rw [show 12 - n = (12 - (n + 1)) + 1 by omega]
  simp only [hq_fts, if_neg hj]
  rcases hq_rf_no h with h1 | h1
  · rw [if_neg h1]
  · by_cases h2 : f_Line_readPart t a (hq_fnd t 32 a (j - a)) = true
    · rw [if_pos h2, if_neg (show ¬ L.length < 12 by rw [hr.1]; exact h1)]
    · rw [if_neg h2]
theorem hq_fts_go (hn : ¬ 12 ≤ n) (hj : ¬ j ≤ a) (hr : hq_rep L fh fv fl k) (h : f_Line_readFeature t a (hq_fnd t 32 a (j - a)) lt sd fc fh fv fl k = true) : hq_fts t lt sd fc j (12 - n) a L = hq_fts t lt sd fc j (12 - (n + 1)) (hq_skp t 32 (hq_fnd t 32 a (j - a)) (j - hq_fnd t 32 a (j - a))) (L ++ [hq_fx t lt sd fc a (hq_fnd t 32 a (j - a))]) := by
  obtain ⟨h1, h2, _⟩ := hq_rf_yes h
  rw [show 12 - n = (12 - (n + 1)) + 1 by omega]
  simp only [hq_fts, if_neg hj]
  rw [if_pos h1, if_pos (show L.length < 12 by rw [hr.1]; exact h2)]
theorem hq_rf_rep (hr : hq_rep L fh fv fl k) (h : f_Line_readFeature t i j lt sd fc fh fv fl k = true) : hq_rep (L ++ [hq_fx t lt sd fc i j]) (f_Line_readFeature_o4 t i j lt sd fc fh fv fl k) (f_Line_readFeature_o5 t i j lt sd fc fh fv fl k) (f_Line_readFeature_o6 t i j lt sd fc fh fv fl k) (f_Line_readFeature_o3 t i j lt sd fc fh fv fl k) := by
  obtain ⟨_, _, e3, e4, e5, e6⟩ := hq_rf_yes h
  rw [e3, e4, e5, e6]
  exact hq_rep_snoc hr
end HQN
/-- the namespaces from the bar at b on, at most n of them -/
def hq_nss (t : Nat → Int32) (len : Nat) : Nat → Nat → List (Int32 × Int32 × Int32) → Option (List (Int32 × Int32 × Int32))
  | 0, b, L => if b = len then some L else none
  | n + 1, b, L => if len ≤ b then (if b = len then some L else none) else (hq_nsp t (b + 1) (hq_fnd t 124 (b + 1) (len - (b + 1))) L).bind (fun L' => hq_nss t len n (hq_fnd t 124 (b + 1) (len - (b + 1))) L')
/-- a whole line: labelled, label, importance, features -/
def hq_par (t : Nat → Int32) (len : Nat) : Option (Bool × Int32 × Int32 × List (Int32 × Int32 × Int32)) :=
  if f_Line_readHead t (hq_fnd t 124 0 (len - 0)) = true then
    (if len ≤ hq_fnd t 124 0 (len - 0) then none else (hq_nss t len 4 (hq_fnd t 124 0 (len - 0)) []).map (fun L => (f_Line_readHead_o1 t (hq_fnd t 124 0 (len - 0)), f_Line_readHead_o2 t (hq_fnd t 124 0 (len - 0)), f_Line_readHead_o3 t (hq_fnd t 124 0 (len - 0)), L)))
  else none
section HQP
variable {t : Nat → Int32} {len b n : Nat} {L L' : List (Int32 × Int32 × Int32)}
theorem hq_nss_stop (h : 4 ≤ n ∨ len ≤ b) : hq_nss t len (4 - n) b L = if b = len then some L else none := by
  by_cases h1 : 4 ≤ n
  · rw [show 4 - n = 0 by omega]; rfl
  · rw [show 4 - n = (4 - (n + 1)) + 1 by omega]
    have h2 : len ≤ b := by omega
    simp only [hq_nss, if_pos h2]
theorem hq_nss_go (hn : ¬ 4 ≤ n) (hb : ¬ len ≤ b) (h : hq_nsp t (b + 1) (hq_fnd t 124 (b + 1) (len - (b + 1))) L = some L') : hq_nss t len (4 - n) b L = hq_nss t len (4 - (n + 1)) (hq_fnd t 124 (b + 1) (len - (b + 1))) L' := by
  rw [show 4 - n = (4 - (n + 1)) + 1 by omega]
  simp only [hq_nss, if_neg hb]
  rw [h]
  rfl
theorem hq_nss_bad (hn : ¬ 4 ≤ n) (hb : ¬ len ≤ b) (h : hq_nsp t (b + 1) (hq_fnd t 124 (b + 1) (len - (b + 1))) L = none) : hq_nss t len (4 - n) b L = none := by
  rw [show 4 - n = (4 - (n + 1)) + 1 by omega]
  simp only [hq_nss, if_neg hb]
  rw [h]
  rfl
end HQP
section HQP2
variable {t : Nat → Int32} {len b n : Nat} {L L' : List (Int32 × Int32 × Int32)} {α : Type} {F : List (Int32 × Int32 × Int32) → α}
theorem hq_par_go (h : f_Line_readHead t (hq_fnd t 124 0 (len - 0)) = true) : hq_par t len = if 0 = 0 ∧ len ≤ hq_fnd t 124 0 (len - 0) then none else (hq_nss t len (4 - 0) (hq_fnd t 124 0 (len - 0)) []).map (fun L => (f_Line_readHead_o1 t (hq_fnd t 124 0 (len - 0)), f_Line_readHead_o2 t (hq_fnd t 124 0 (len - 0)), f_Line_readHead_o3 t (hq_fnd t 124 0 (len - 0)), L)) := by
  rw [hq_par, if_pos h]
  by_cases h2 : len ≤ hq_fnd t 124 0 (len - 0)
  · rw [if_pos h2, if_pos ⟨rfl, h2⟩]
  · rw [if_neg h2, if_neg (fun h3 => h2 h3.2)]
theorem hq_par_bad (hn : ¬ 4 ≤ n) (hb : ¬ len ≤ b) (h : ¬ (hq_nsp t (b + 1) (hq_fnd t 124 (b + 1) (len - (b + 1))) L).isSome = true) : (if n = 0 ∧ len ≤ b then none else (hq_nss t len (4 - n) b L).map F) = none := by
  rw [if_neg (fun h3 => hb h3.2), hq_nss_bad hn hb (Option.not_isSome_iff_eq_none.mp h)]
  rfl
theorem hq_par_next (hn : ¬ 4 ≤ n) (hb : ¬ len ≤ b) (h : hq_nsp t (b + 1) (hq_fnd t 124 (b + 1) (len - (b + 1))) L = some L') : (if n = 0 ∧ len ≤ b then none else (hq_nss t len (4 - n) b L).map F) = (if n + 1 = 0 ∧ len ≤ hq_fnd t 124 (b + 1) (len - (b + 1)) then none else (hq_nss t len (4 - (n + 1)) (hq_fnd t 124 (b + 1) (len - (b + 1))) L').map F) := by
  rw [if_neg (fun h3 => hb h3.2), if_neg (fun h3 => absurd h3.1 (by omega)), hq_nss_go hn hb h]
theorem hq_par_end0 (hn : n ≤ 0) (h : 4 ≤ n ∨ len ≤ b) : (if n = 0 ∧ len ≤ b then none else (hq_nss t len (4 - n) b L).map F) = none := by
  rw [if_pos ⟨by omega, by omega⟩]
theorem hq_par_end (hn : ¬ n ≤ 0) (h : 4 ≤ n ∨ len ≤ b) : (if n = 0 ∧ len ≤ b then none else (hq_nss t len (4 - n) b L).map F) = (if b = len then some L else none).map F := by
  rw [if_neg (fun h3 => hn (by omega)), hq_nss_stop h]
end HQP2
