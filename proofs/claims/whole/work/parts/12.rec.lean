/-! the recursion: readValue, takeReference, takeEntity -/
theorem pig : ∀ (n : Nat) (l : List Nat), l.Nodup → (∀ x ∈ l, x < n) → l.length ≤ n
  | 0, l, _, h => by
    cases l with
    | nil => exact Nat.le_refl _
    | cons a l => exact absurd (h a List.mem_cons_self) (Nat.not_lt_zero _)
  | n + 1, l, hd, h => by
    by_cases hm : n ∈ l
    · have h1 := pig n (l.erase n) (hd.erase n) (fun x hx => by
        have h2 := h x (List.mem_of_mem_erase hx)
        have h3 : x ≠ n := ((hd.mem_erase_iff).mp hx).1
        omega)
      rw [List.length_erase_of_mem hm] at h1
      omega
    · have h1 := pig n l hd (fun x hx => by
        have h2 := h x hx
        have h3 : x ≠ n := fun e => hm (e ▸ hx)
        omega)
      omega
def opS (stk : List Nat) : Nat → Bool := fun k => decide (k ∈ stk)
theorem opS_up {stk : List Nat} {k : Nat} : va_up (opS stk) k true = opS (k :: stk) := by
  funext j
  by_cases h : j = k
  · subst h
    rw [va_up_self]
    simp [opS]
  · rw [va_up_ne _ _ h]
    simp [opS, h]
theorem opS_dn {stk : List Nat} {k : Nat} (hk : k ∉ stk) : va_up (opS (k :: stk)) k false = opS stk := by
  funext j
  by_cases h : j = k
  · subst h
    rw [va_up_self]
    simp [opS, hk]
  · rw [va_up_ne _ _ h]
    simp [opS, h]
/-- behind the reading of a value: the fault, the state -/
def RP (g : hp_G) (ad : Nat → Nat) (kn : Nat → Bool) (rs : Nat → List Int32) (lim : Nat) (stk : List Nat) (fp : Int32) (F : Nat → va_E) (res : md_R) (v : Int32) (F' : Nat → va_E) : Prop :=
  v = nI res.2.1 ∧ (∃ (rs2 : Nat → List Int32) (wh te nu en : Int32), vSt g ad F' rs2 kn (opS stk) (pf res.2.1 fp (nI res.2.2)) (nI lim) (nI res.1.2.1) (nI res.1.2.2) wh te nu en ∧ rs2 5 = res.1.1 ∧ ∀ j, j ≠ 5 → rs2 j = rs j) ∧ vFr F F'
def subd (tx : Nat → Option (List Int32)) (lim d : Nat) (stk : List Nat) : Nat → List Int32 → md_S → Nat → md_R := fun k ys s h => md_rv tx lim d (k :: stk) h ys s
/-- what holds of the state when a value is read -/
def RI (g : hp_G) (ad : Nat → Nat) (kn : Nat → Bool) (rs : Nat → List Int32) (lim : Nat) (stk : List Nat) (s : md_S) (F : Nat → va_E) (rs1 : Nat → List Int32) (fp wh te nu en : Int32) : Prop :=
  stk.Nodup ∧ (∀ k ∈ stk, k < 26) ∧ vSt g ad F rs1 kn (opS stk) fp (nI lim) (nI s.2.1) (nI s.2.2) wh te nu en ∧ rs1 5 = s.1 ∧ (∀ j, j ≠ 5 → rs1 j = rs j) ∧ s.2.1 ≤ lim ∧ s.2.2 ≤ 27 ∧ lim ≤ 100000
def txS (kn : Nat → Bool) (rs : Nat → List Int32) : Nat → Option (List Int32) := fun k => if kn k = true then some (rs (9 + 3 * k)) else none
def RV (l : Launch) (g : hp_G) (z0 N : Nat) (ad : Nat → Nat) (kn : Nat → Bool) (rs : Nat → List Int32) (lim d : Nat) : Prop :=
  ∀ (stk : List Nat) (ou j : Nat) (s : md_S) (F : Nat → va_E) (rs1 : Nat → List Int32) (fp wh te nu en o3 : Int32), d + stk.length = 27 → rowp j → j ≠ 5 → ou < 1000 → o3 = (if stk.length = 0 then -1 else nI ou) → RI g ad kn rs lim stk s F rs1 fp wh te nu en →
    hp_Mi l g z0 N ad y_D_readValue ws_D_readValue (rk (3 * d + 1)) [.ref (ad 0), .ref (ad j), .int (nI stk.length), .int o3] F (RP g ad kn rs lim stk fp F (md_rv (txS kn rs) lim d stk ou (rs j) s))
def TE (l : Launch) (g : hp_G) (z0 N : Nat) (ad : Nat → Nat) (kn : Nat → Bool) (rs : Nat → List Int32) (lim d : Nat) : Prop :=
  ∀ (stk : List Nat) (k h : Nat) (s : md_S) (F : Nat → va_E) (rs1 : Nat → List Int32) (fp wh te nu en : Int32), d + 1 + stk.length = 27 → k < 26 → h < 1000 → RI g ad kn rs lim stk s F rs1 fp wh te nu en →
    hp_Mi l g z0 N ad y_D_takeEntity ws_D_takeEntity (rk (3 * d + 2)) [.ref (ad 0), .int (nI k), .int (nI stk.length), .int (nI h)] F (RP g ad kn rs lim stk fp F (md_en (txS kn rs) lim (subd (txS kn rs) lim d stk) stk k s h))
def TR (l : Launch) (g : hp_G) (z0 N : Nat) (ad : Nat → Nat) (kn : Nat → Bool) (rs : Nat → List Int32) (lim d : Nat) : Prop :=
  ∀ (stk : List Nat) (h : Nat) (s : md_S) (F : Nat → va_E) (rs1 : Nat → List Int32) (fp wh te nu en : Int32) (ent : Bool), d + 1 + stk.length = 27 → h < 1000 → te = b2 ent → (ent = true → ∃ k : Nat, k < 26 ∧ nu = nI k) → RI g ad kn rs lim stk s F rs1 fp wh te nu en →
    hp_Mi l g z0 N ad y_D_takeReference ws_D_takeReference (rk (3 * d + 3)) [.ref (ad 0), .int (nI stk.length), .int (nI h)] F (RP g ad kn rs lim stk fp F (md_wr (txS kn rs) lim (subd (txS kn rs) lim d stk) stk ent nu s h))
/-! numbers of a value's reading -/
/-- the fault is small, the meter within the limit, the depth small -/
def okR (lim : Nat) (r : md_R) : Prop := r.2.1 ≤ 8 ∧ r.1.2.1 ≤ lim ∧ r.1.2.2 ≤ 27
theorem md_ad_f (m : Nat) (a : List Int32) (c : Int32) : (md_ad m a c).2 ≤ 8 := by unfold md_ad; split <;> simp
theorem md_by_f (a : List Int32) (c : Int32) : (md_by a c).2 ≤ 8 := by
  unfold md_by
  split
  · simp
  · split
    · exact md_ad_f _ _ _
    · simp
theorem ok_en {tx : Nat → Option (List Int32)} {lim : Nat} {sub : Nat → List Int32 → md_S → Nat → md_R} {stk : List Nat} (hsub : ∀ k ys s h, k ∉ stk → s.2.1 ≤ lim → s.2.2 ≤ 27 → okR lim (sub k ys s h)) (hl : stk.length ≤ 26) {k : Nat} {s : md_S} {h : Nat} (h1 : s.2.1 ≤ lim) (h2 : s.2.2 ≤ 27) : okR lim (md_en tx lim sub stk k s h) := by
  unfold md_en
  split
  · exact ⟨by simp, h1, h2⟩
  · split
    · exact ⟨by simp, h1, h2⟩
    · rename_i hk
      split
      · exact ⟨by simp, h1, h2⟩
      · rename_i hl2
        exact hsub _ _ _ _ hk (by show s.2.1 + _ ≤ lim; omega) (by show max s.2.2 (stk.length + 1) ≤ 27; omega)
theorem ok_wr {tx : Nat → Option (List Int32)} {lim : Nat} {sub : Nat → List Int32 → md_S → Nat → md_R} {stk : List Nat} (hsub : ∀ k ys s h, k ∉ stk → s.2.1 ≤ lim → s.2.2 ≤ 27 → okR lim (sub k ys s h)) (hl : stk.length ≤ 26) {en : Bool} {nu : Int32} {s : md_S} {h : Nat} (h1 : s.2.1 ≤ lim) (h2 : s.2.2 ≤ 27) : okR lim (md_wr tx lim sub stk en nu s h) := by
  unfold md_wr
  split
  · exact ok_en hsub hl h1 h2
  · exact ⟨md_nu_f _ _ _, h1, h2⟩
theorem ok_it {tx : Nat → Option (List Int32)} {lim : Nat} {sub : Nat → List Int32 → md_S → Nat → md_R} {stk : List Nat} (hsub : ∀ k ys s h, k ∉ stk → s.2.1 ≤ lim → s.2.2 ≤ 27 → okR lim (sub k ys s h)) (hl : stk.length ≤ 26) {ou : Nat} {xs : List Int32} {i : Nat} {s : md_S} (h1 : s.2.1 ≤ lim) (h2 : s.2.2 ≤ 27) : okR lim (md_it tx lim sub stk ou xs i s) := by
  unfold md_it
  split
  · split
    · exact ok_wr hsub hl h1 h2
    · exact ⟨by show (if _ then 1 else 7) ≤ 8; split <;> omega, h1, h2⟩
  · exact ⟨md_by_f _ _, h1, h2⟩
theorem ok_lp {tx : Nat → Option (List Int32)} {lim : Nat} {sub : Nat → List Int32 → md_S → Nat → md_R} {stk : List Nat} (hsub : ∀ k ys s h, k ∉ stk → s.2.1 ≤ lim → s.2.2 ≤ 27 → okR lim (sub k ys s h)) (hl : stk.length ≤ 26) {ou : Nat} {xs : List Int32} : ∀ (n i : Nat) (s : md_S), s.2.1 ≤ lim → s.2.2 ≤ 27 → okR lim (md_lp tx lim sub stk ou xs n i s)
  | 0, _, s, h1, h2 => ⟨by simp [md_lp], h1, h2⟩
  | n + 1, i, s, h1, h2 => by
    have h3 := ok_it (tx := tx) hsub hl (ou := ou) (xs := xs) (i := i) h1 h2
    unfold md_lp
    split
    · split
      · exact ok_lp hsub hl n _ _ h3.2.1 h3.2.2
      · exact h3
    · exact ⟨by simp, h1, h2⟩
theorem ok_rv {tx : Nat → Option (List Int32)} {lim : Nat} : ∀ (d : Nat) (stk : List Nat) (ou : Nat) (xs : List Int32) (s : md_S), d + stk.length = 27 → s.2.1 ≤ lim → s.2.2 ≤ 27 → okR lim (md_rv tx lim d stk ou xs s)
  | 0, _, _, _, s, _, h1, h2 => ⟨by simp [md_rv], h1, h2⟩
  | d + 1, stk, ou, xs, s, hd, h1, h2 => by
    show okR lim (md_lp _ _ _ _ _ _ _ _ _)
    exact ok_lp (fun k ys s h _ a b => ok_rv d (k :: stk) h ys s (by rw [List.length_cons]; omega) a b) (by omega) _ _ _ h1 h2
theorem nu_k {c : Int32} (h1 : 97 ≤ c) (h2 : c ≤ 122) : ∃ k : Nat, k < 26 ∧ c - 97 = nI k := by
  rw [Int32.le_iff_toInt_le] at h1 h2
  have e1 : (97 : Int32).toInt = 97 := rfl
  have e2 : (122 : Int32).toInt = 122 := rfl
  have h0 : ¬ c < 0 := by
    rw [Int32.lt_iff_toInt_lt]
    have e0 : (0 : Int32).toInt = 0 := rfl
    omega
  obtain ⟨k, hk, e⟩ := nI_of h0
  subst e
  rw [nI_toInt hk] at h1 h2
  exact ⟨k - 97, by omega, pk_sub (b := 97) (by omega)⟩
theorem here_lt {stk : List Nat} {ou i : Nat} (h1 : ou < 1000) (h2 : i < 1000) : md_here stk ou i < 1000 := by unfold md_here; split <;> assumption
