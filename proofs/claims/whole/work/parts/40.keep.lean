/-! class and reference side by side -/
theorem mS.keep {g : hp_G} {ad : Nat → Nat} {F F1 : Nat → va_E} {tape : List Int32} {kn : Nat → Bool} {rt : Nat → List Int32} {la mm : List Int32} {stk : List Nat} {ap : Nat → Int32} {tc fp me dp fa ou ki nu be : Int32} (h : mS g ad F tape kn rt la mm stk ap tc fp me dp fa ou ki nu be) (hf : vFr F F1) : mS g ad F1 tape kn rt la mm stk ap tc fp me dp fa ou ki nu be := by
  obtain ⟨tp, hs, sz, tx, vl, ey, md, ⟨a1, a2, a3, a4, a5, a6, a7, a8, a9⟩, hB⟩ := h
  exact ⟨tp, hs, sz, tx, vl, ey, md, ⟨(hf 87 (by omega)).trans a1, (hf 88 (by omega)).trans a2, (hf 89 (by omega)).trans a3, (hf 90 (by omega)).trans a4, (hf 91 (by omega)).trans a5, (hf 92 (by omega)).trans a6, (hf 93 (by omega)).trans a7, (hf 94 (by omega)).trans a8, (hf 95 (by omega)).trans a9⟩, hB⟩
theorem vSt.keepM {g : hp_G} {ad : Nat → Nat} {F F1 : Nat → va_E} {rs : Nat → List Int32} {kn op : Nat → Bool} {fp lm me dp wh te nu en : Int32} (h : vSt g ad F rs kn op fp lm me dp wh te nu en) (hf : mFr F F1) : vSt g ad F1 rs kn op fp lm me dp wh te nu en := by
  obtain ⟨a, b, ⟨fe, c1, c2⟩, d, e⟩ := h
  exact ⟨(hf 0 (by omega)).trans a, fun j hj => (b j hj).keep (hf j (by have := rowp_lt hj; omega)) (hf _ (by have := rowp_lt hj; omega)), ⟨fe, (hf 7 (by omega)).trans c1, c2⟩, fun k hk => (hf _ (by omega)).trans (d k hk), (hf 86 (by omega)).trans e⟩
/-- between two calls: both hold the same -/
def LI (g : hp_G) (ad : Nat → Nat) (F : Nat → va_E) : Prop := ∃ (rs : Nat → List Int32) (kn : Nat → Bool) (fp lm me dp wh te nu en : Int32) (mm : List Int32) (ap : Nat → Int32) (tc fa ou ki nu2 be : Int32), vSt g ad F rs kn (opS []) fp lm me dp wh te nu en ∧ mS g ad F (rs 1) kn (fun k => rs (9 + 3 * k)) (rs 5) mm [] ap tc fp me dp fa ou ki nu2 be
theorem LI.of {g : hp_G} {ad : Nat → Nat} {F : Nat → va_E} {rs : Nat → List Int32} {kn : Nat → Bool} {fp lm me dp wh te nu en : Int32} {tape : List Int32} {rt : Nat → List Int32} {la mm : List Int32} {ap : Nat → Int32} {tc fa ou ki nu2 be : Int32} (h1 : vSt g ad F rs kn (opS []) fp lm me dp wh te nu en) (h2 : mS g ad F tape kn rt la mm [] ap tc fp me dp fa ou ki nu2 be) (e1 : rs 1 = tape) (e5 : rs 5 = la) (er : ∀ k, rs (9 + 3 * k) = rt k) : LI g ad F := by
  have e2 : rt = fun k => rs (9 + 3 * k) := funext fun k => (er k).symm
  subst e1 e5 e2
  exact ⟨rs, kn, fp, lm, me, dp, wh, te, nu, en, mm, ap, tc, fa, ou, ki, nu2, be, h1, h2⟩
theorem opS_nil : opS [] = fun _ => false := by funext k; simp [opS]
theorem law_out {L i : Nat} (hL : L ≤ 2048) (hi : i ≤ 4000) (h : nI L - 4 < nI i) : L < i + 4 := by
  have e : nI L - 4 = nI L - nI 4 := rfl
  rw [e, Int32.lt_iff_toInt_lt, pk_sub_toInt (by omega) (by omega), nI_toInt (by omega)] at h
  omega
theorem law_in {L i : Nat} (hL : L ≤ 2048) (hi : i ≤ 4000) (h : ¬ nI L - 4 < nI i) : i + 4 ≤ L := by
  have e : nI L - 4 = nI L - nI 4 := rfl
  rw [e, Int32.lt_iff_toInt_lt, pk_sub_toInt (by omega) (by omega), nI_toInt (by omega)] at h
  omega
theorem and7 (x : Int32) : ∃ j : Nat, j < 8 ∧ x &&& 7 = nI j := pk_andE x (m := 7) 3 rfl
theorem i8 {j : Nat} (h : j < 8) : j = 0 ∨ j = 1 ∨ j = 2 ∨ j = 3 ∨ j = 4 ∨ j = 5 ∨ j = 6 ∨ j = 7 := by omega
theorem lcmp0 (x : Int64) : lg_cmp x x = 0 := by simp [lg_cmp]
theorem mo_k {x : Int32} (h0 : ¬ x < 0) (h1 : ¬ 1 < x) : ∃ k : Nat, k ≤ 1 ∧ x = nI k := by
  obtain ⟨k, hk, e⟩ := nI_of h0
  subst e
  refine ⟨k, ?_, rfl⟩
  rcases Nat.lt_or_ge 1 k with q | q
  · exact absurd ((nI_ltI (a := 1) (by omega) hk).mpr q) h1
  · exact q
theorem li_k {x : Int32} (h0 : ¬ x < 0) (h1 : ¬ 100000 < x) : ∃ k : Nat, k ≤ 100000 ∧ x = nI k := by
  obtain ⟨k, hk, e⟩ := nI_of h0
  subst e
  refine ⟨k, ?_, rfl⟩
  rcases Nat.lt_or_ge 100000 k with q | q
  · exact absurd ((nI_ltI (a := 100000) (by omega) hk).mpr q) h1
  · exact q
