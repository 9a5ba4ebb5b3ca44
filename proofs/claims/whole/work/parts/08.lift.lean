/-! the rows' contracts, said of the whole desk -/
/-- the place behind a fault -/
def pf (f : Nat) (fp a : Int32) : Int32 := if f = 0 then fp else a
theorem pf_0 {f : Nat} {fp a : Int32} (h : f = 0) : pf f fp a = fp := if_pos h
theorem pf_n {f : Nat} {fp a : Int32} (h : ¬ f = 0) : pf f fp a = a := if_neg h
theorem s_size (l : Launch) (g : hp_G) (z0 N : Nat) (ad : Nat → Nat) (F : Nat → va_E) (hN : 87 ≤ N) (rs : Nat → List Int32) (kn op : Nat → Bool) (fp lm me dp wh te nu en : Int32) (hS : vSt g ad F rs kn op fp lm me dp wh te nu en) (j : Nat) (hj : rowp j) : hp_Mi l g z0 N ad y_R_size ws_R_size (rk 0) [.ref (ad j)] F (fun v F' => v = nI (rs j).length ∧ F' = F) :=
  c_Row_size l g z0 N ad F j (cap j) (rs j) (by have := rowp_lt hj; omega) (by have := cap_le j; omega) (hS.row hj)
theorem s_at (l : Launch) (g : hp_G) (z0 N : Nat) (ad : Nat → Nat) (F : Nat → va_E) (hN : 87 ≤ N) (rs : Nat → List Int32) (kn op : Nat → Bool) (fp lm me dp wh te nu en : Int32) (hS : vSt g ad F rs kn op fp lm me dp wh te nu en) (j : Nat) (hj : rowp j) (k : Nat) (hk : k < 1000000) : hp_Mi l g z0 N ad y_R_at ws_R_at (rk 0) [.ref (ad j), .int (nI k)] F (fun v F' => v = md_at (rs j) k ∧ F' = F) :=
  c_Row_at l g z0 N ad F j (cap j) (rs j) (by have := rowp_lt hj; omega) (by have := cap_le j; omega) (hS.row hj) k hk
theorem s_wordAt (l : Launch) (g : hp_G) (z0 N : Nat) (ad : Nat → Nat) (F : Nat → va_E) (hN : 87 ≤ N) (rs : Nat → List Int32) (kn op : Nat → Bool) (fp lm me dp wh te nu en : Int32) (hS : vSt g ad F rs kn op fp lm me dp wh te nu en) (j : Nat) (hj : rowp j) (k : Int32) : hp_Ml l g z0 N ad y_R_wordAt ws_R_wordAt (rk 0) [.ref (ad j), .int k] F (fun v F' => v = md_word (rs j) k ∧ F' = F) :=
  c_Row_wordAt l g z0 N ad F j (cap j) (rs j) (by have := rowp_lt hj; omega) (by have := cap_le j; omega) (hS.row hj) k
theorem s_empty (l : Launch) (g : hp_G) (z0 N : Nat) (ad : Nat → Nat) (F : Nat → va_E) (hN : 87 ≤ N) (rs : Nat → List Int32) (kn op : Nat → Bool) (fp lm me dp wh te nu en : Int32) (hS : vSt g ad F rs kn op fp lm me dp wh te nu en) (j : Nat) (hj : rowp j) : hp_Mv l g z0 N ad y_R_empty ws_R_empty (rk 0) [.ref (ad j)] F (fun F' => vSt g ad F' (va_up rs j []) kn op fp lm me dp wh te nu en ∧ vFr F F') :=
  hp_imp_v (c_Row_empty l g z0 N ad F j (cap j) (rs j) (by have := rowp_lt hj; omega) (by have := cap_le j; omega) (hS.row hj)) (fun F' h => ⟨hS.setRow hj h.1 (fun x hx _ => h.2 x hx), fun x hx => h.2 x (by have := rowp_lt hj; omega)⟩)
theorem s_add (l : Launch) (g : hp_G) (z0 N : Nat) (ad : Nat → Nat) (F : Nat → va_E) (hN : 87 ≤ N) (rs : Nat → List Int32) (kn op : Nat → Bool) (fp lm me dp wh te nu en : Int32) (hS : vSt g ad F rs kn op fp lm me dp wh te nu en) (j : Nat) (hj : rowp j) (b : Int32) : hp_Mi l g z0 N ad y_R_add ws_R_add (rk 0) [.ref (ad j), .int b] F (fun v F' => v = b2 (decide ((rs j).length < cap j)) ∧ vSt g ad F' (va_up rs j (md_ad (cap j) (rs j) b).1) kn op fp lm me dp wh te nu en ∧ vFr F F') :=
  hp_imp_i (c_Row_add l g z0 N ad F j (cap j) (rs j) (by have := rowp_lt hj; omega) (by have := cap_le j; omega) (hS.row hj) b) (fun v F' h => by
    rcases h with ⟨h1, h2, h3, h4⟩ | ⟨h1, h2, h3⟩
    · refine ⟨by rw [h1, decide_eq_true h2]; rfl, ?_, fun x hx => h4 x (by have := rowp_lt hj; omega) (by have := rowp_lt hj; omega)⟩
      rw [show md_ad (cap j) (rs j) b = (rs j ++ [b], 0) from if_pos h2]
      exact hS.setRow hj h3 h4
    · refine ⟨by rw [h1, decide_eq_false (by omega)]; rfl, ?_, fun x hx => by rw [h3]⟩
      rw [show md_ad (cap j) (rs j) b = (rs j, 8) from if_neg (by omega), h3]
      show vSt g ad F (va_up rs j (rs j)) kn op fp lm me dp wh te nu en
      rw [va_up_eta]
      exact hS)
theorem s_squeeze (l : Launch) (g : hp_G) (z0 N : Nat) (ad : Nat → Nat) (F : Nat → va_E) (hN : 87 ≤ N) (rs : Nat → List Int32) (kn op : Nat → Bool) (fp lm me dp wh te nu en : Int32) (hS : vSt g ad F rs kn op fp lm me dp wh te nu en) (j : Nat) (hj : rowp j) : hp_Mv l g z0 N ad y_R_squeeze ws_R_squeeze (rk 0) [.ref (ad j)] F (fun F' => vSt g ad F' (va_up rs j (md_sq (rs j))) kn op fp lm me dp wh te nu en ∧ vFr F F') :=
  hp_imp_v (c_Row_squeeze l g z0 N ad F j (cap j) (rs j) (by have := rowp_lt hj; omega) (by have := cap_le j; omega) (hS.row hj)) (fun F' h => ⟨hS.setRow hj h.1 h.2, fun x hx => h.2 x (by have := rowp_lt hj; omega) (by have := rowp_lt hj; omega)⟩)
theorem s_read (l : Launch) (g : hp_G) (z0 N : Nat) (ad : Nat → Nat) (F : Nat → va_E) (hN : 87 ≤ N) (rs : Nat → List Int32) (kn op : Nat → Bool) (fp lm me dp wh te nu en : Int32) (hS : vSt g ad F rs kn op fp lm me dp wh te nu en) (j : Nat) (hj : rowp j) (q : Nat) (hq : q < 400) : hp_Mv l g z0 N ad y_F_read ws_F_read (rk 3) [.ref (ad 86), .ref (ad j), .int (nI q)] F (fun F' => ∃ nu' : Int32, vSt g ad F' rs kn op fp lm me dp (b2 (md_ref (rs j) q).1) (b2 (md_ref (rs j) q).2.1) nu' (nI (md_ref (rs j) q).2.2.2) ∧ ((md_ref (rs j) q).1 = true → nu' = (md_ref (rs j) q).2.2.1) ∧ vFr F F') :=
  hp_imp_v (c_Ref_read l g z0 N ad F hN j (cap j) (rs j) (by have := rowp_lt hj; omega) ⟨(rowp_x hj).2.2.2.2.1, (rowp_x hj).2.2.2.2.2.1⟩ (by have := cap_le j; omega) (hS.row hj) wh te nu en hS.2.2.2.2 q hq) (fun F' h => by
    obtain ⟨⟨nu', h1, h2⟩, h3⟩ := h
    exact ⟨nu', hS.setRef h1 h3, h2, fun x hx => h3 x (by omega)⟩)
