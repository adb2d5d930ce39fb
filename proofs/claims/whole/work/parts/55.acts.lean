/-! PURE: counting loops; the row and the acts; load, support, told -/
section LP
theorem lp1_c {f : (Int32 → Prop) → Int32 → Prop} (N : Nat) (hN : N < 1000000) (I : Nat → Prop) (h : ∀ (L : Int32 → Prop) (k : Nat), k ≤ N → I k → (k < N → I (k + 1) → L (nI (k + 1))) → f L (nI k)) (k0 : Nat) (hk : k0 ≤ N) (h0 : I k0) : zw_lp1 f (nI k0) := by
  refine zw_lp1_m (fun x => ∃ k, x = nI k ∧ k ≤ N ∧ I k) (fun x => N - x.toNatClampNeg) (fun L x hx hL => ?_) (nI k0) ⟨k0, rfl, hk, h0⟩
  obtain ⟨k, rfl, hk2, hI⟩ := hx
  exact h L k hk2 hI (fun hlt hI2 => hL _ ⟨k + 1, rfl, hlt, hI2⟩ (by rw [nC (by omega), nC (by omega)]; omega))
theorem lp2_c {β : Type} {f : (Int32 → β → Prop) → Int32 → β → Prop} (N : Nat) (hN : N < 1000000) (I : Nat → β → Prop) (h : ∀ (L : Int32 → β → Prop) (k : Nat) (b : β), k ≤ N → I k b → (∀ b', k < N → I (k + 1) b' → L (nI (k + 1)) b') → f L (nI k) b) (k0 : Nat) (b0 : β) (hk : k0 ≤ N) (h0 : I k0 b0) : zw_lp2 f (nI k0) b0 := by
  refine zw_lp2_m (fun x b => ∃ k, x = nI k ∧ k ≤ N ∧ I k b) (fun x _ => N - x.toNatClampNeg) (fun L x b hx hL => ?_) (nI k0) b0 ⟨k0, rfl, hk, h0⟩
  obtain ⟨k, rfl, hk2, hI⟩ := hx
  exact h L k b hk2 hI (fun b' hlt hI2 => hL _ _ ⟨k + 1, rfl, hlt, hI2⟩ (by rw [nC (by omega), nC (by omega)]; omega))
theorem lp2_d {β : Type} {f : (β → Int32 → Prop) → β → Int32 → Prop} (N : Nat) (hN : N < 1000000) (I : Nat → β → Prop) (h : ∀ (L : β → Int32 → Prop) (k : Nat) (b : β), k ≤ N → I k b → (∀ b', k < N → I (k + 1) b' → L b' (nI (k + 1))) → f L b (nI k)) (k0 : Nat) (b0 : β) (hk : k0 ≤ N) (h0 : I k0 b0) : zw_lp2 f b0 (nI k0) := by
  refine zw_lp2_m (fun b x => ∃ k, x = nI k ∧ k ≤ N ∧ I k b) (fun _ x => N - x.toNatClampNeg) (fun L b x hx hL => ?_) b0 (nI k0) ⟨k0, rfl, hk, h0⟩
  obtain ⟨k, rfl, hk2, hI⟩ := hx
  exact h L k b hk2 hI (fun b' hlt hI2 => hL _ _ ⟨k + 1, rfl, hlt, hI2⟩ (by rw [nC (by omega), nC (by omega)]; omega))
theorem lp3_c {β γ : Type} {f : (Int32 → β → γ → Prop) → Int32 → β → γ → Prop} (N : Nat) (hN : N < 1000000) (I : Nat → β → γ → Prop) (h : ∀ (L : Int32 → β → γ → Prop) (k : Nat) (b : β) (c : γ), k ≤ N → I k b c → (∀ b' c', k < N → I (k + 1) b' c' → L (nI (k + 1)) b' c') → f L (nI k) b c) (k0 : Nat) (b0 : β) (c0 : γ) (hk : k0 ≤ N) (h0 : I k0 b0 c0) : zw_lp3 f (nI k0) b0 c0 := by
  refine zw_lp3_m (fun x b c => ∃ k, x = nI k ∧ k ≤ N ∧ I k b c) (fun x _ _ => N - x.toNatClampNeg) (fun L x b c hx hL => ?_) (nI k0) b0 c0 ⟨k0, rfl, hk, h0⟩
  obtain ⟨k, rfl, hk2, hI⟩ := hx
  exact h L k b c hk2 hI (fun b' c' hlt hI2 => hL _ _ _ ⟨k + 1, rfl, hlt, hI2⟩ (by rw [nC (by omega), nC (by omega)]; omega))
theorem lp3_d {β γ : Type} {f : (β → Int32 → γ → Prop) → β → Int32 → γ → Prop} (N : Nat) (hN : N < 1000000) (I : Nat → β → γ → Prop) (h : ∀ (L : β → Int32 → γ → Prop) (k : Nat) (b : β) (c : γ), k ≤ N → I k b c → (∀ b' c', k < N → I (k + 1) b' c' → L b' (nI (k + 1)) c') → f L b (nI k) c) (k0 : Nat) (b0 : β) (c0 : γ) (hk : k0 ≤ N) (h0 : I k0 b0 c0) : zw_lp3 f b0 (nI k0) c0 := by
  refine zw_lp3_m (fun b x c => ∃ k, x = nI k ∧ k ≤ N ∧ I k b c) (fun _ x _ => N - x.toNatClampNeg) (fun L b x c hx hL => ?_) b0 (nI k0) c0 ⟨k0, rfl, hk, h0⟩
  obtain ⟨k, rfl, hk2, hI⟩ := hx
  exact h L k b c hk2 hI (fun b' c' hlt hI2 => hL _ _ _ ⟨k + 1, rfl, hlt, hI2⟩ (by rw [nC (by omega), nC (by omega)]; omega))
theorem lp4_d {β γ δ : Type} {f : (β → Int32 → γ → δ → Prop) → β → Int32 → γ → δ → Prop} (N : Nat) (hN : N < 1000000) (I : Nat → β → γ → δ → Prop) (h : ∀ (L : β → Int32 → γ → δ → Prop) (k : Nat) (b : β) (c : γ) (d : δ), k ≤ N → I k b c d → (∀ b' c' d', k < N → I (k + 1) b' c' d' → L b' (nI (k + 1)) c' d') → f L b (nI k) c d) (k0 : Nat) (b0 : β) (c0 : γ) (d0 : δ) (hk : k0 ≤ N) (h0 : I k0 b0 c0 d0) : zw_lp4 f b0 (nI k0) c0 d0 := by
  refine zw_lp4_m (fun b x c d => ∃ k, x = nI k ∧ k ≤ N ∧ I k b c d) (fun _ x _ _ => N - x.toNatClampNeg) (fun L b x c d hx hL => ?_) b0 (nI k0) c0 d0 ⟨k0, rfl, hk, h0⟩
  obtain ⟨k, rfl, hk2, hI⟩ := hx
  exact h L k b c d hk2 hI (fun b' c' d' hlt hI2 => hL _ _ _ _ ⟨k + 1, rfl, hlt, hI2⟩ (by rw [nC (by omega), nC (by omega)]; omega))
theorem lp4_c {β γ δ : Type} {f : (Int32 → β → γ → δ → Prop) → Int32 → β → γ → δ → Prop} (N : Nat) (hN : N < 1000000) (I : Nat → β → γ → δ → Prop) (h : ∀ (L : Int32 → β → γ → δ → Prop) (k : Nat) (b : β) (c : γ) (d : δ), k ≤ N → I k b c d → (∀ b' c' d', k < N → I (k + 1) b' c' d' → L (nI (k + 1)) b' c' d') → f L (nI k) b c d) (k0 : Nat) (b0 : β) (c0 : γ) (d0 : δ) (hk : k0 ≤ N) (h0 : I k0 b0 c0 d0) : zw_lp4 f (nI k0) b0 c0 d0 := by
  refine zw_lp4_m (fun x b c d => ∃ k, x = nI k ∧ k ≤ N ∧ I k b c d) (fun x _ _ _ => N - x.toNatClampNeg) (fun L x b c d hx hL => ?_) (nI k0) b0 c0 d0 ⟨k0, rfl, hk, h0⟩
  obtain ⟨k, rfl, hk2, hI⟩ := hx
  exact h L k b c d hk2 hI (fun b' c' d' hlt hI2 => hL _ _ _ _ ⟨k + 1, rfl, hlt, hI2⟩ (by rw [nC (by omega), nC (by omega)]; omega))
end LP
/-- the loop's own test -/
theorem br_n {A B : Prop} {k n : Nat} (hk : k < 1000000) (hn : n < 1000000) (ht : n ≤ k → A) (hf : k < n → B) : if nI n ≤ nI k then A else B :=
  br_i (le_nI rfl (by omega) (by omega)) ht (fun h => hf (by omega))
section CN
variable {kd : Nat → Int32}
theorem cnt_s0 {a : Nat} (h : kd a = 0) : cnt kd (a + 1) = cnt kd a + 1 := by show _ + _ = _; rw [if_pos h]
theorem cnt_s1 {a : Nat} (h : ¬ kd a = 0) : cnt kd (a + 1) = cnt kd a := by show _ + _ = _; rw [if_neg h]; rfl
theorem cnt_le (a : Nat) : cnt kd a ≤ cnt kd (a + 1) := Nat.le_add_right _ _
theorem cnt_mono {a b : Nat} (h : a ≤ b) : cnt kd a ≤ cnt kd b := by
  induction h with
  | refl => exact Nat.le_refl _
  | step _ ih => exact Nat.le_trans ih (cnt_le _)
theorem cnt_lt {a b : Nat} (h : a < b) (h0 : kd a = 0) : cnt kd a < cnt kd b := by
  have := cnt_mono (kd := kd) (show a + 1 ≤ b from h)
  rw [cnt_s0 h0] at this
  omega
theorem cnt_at {k : Nat} : ∀ n, k < cnt kd n → ∃ a, a < n ∧ kd a = 0 ∧ cnt kd a = k := by
  intro n
  induction n with
  | zero => intro h; exact absurd h (Nat.not_lt_zero _)
  | succ n ih =>
    intro h
    by_cases h0 : kd n = 0
    · rw [cnt_s0 h0] at h
      rcases Nat.lt_or_ge k (cnt kd n) with q | q
      · obtain ⟨a, h1, h2⟩ := ih q
        exact ⟨a, by omega, h2⟩
      · exact ⟨n, by omega, h0, by omega⟩
    · rw [cnt_s1 h0] at h
      obtain ⟨a, h1, h2⟩ := ih h
      exact ⟨a, by omega, h2⟩
theorem cnt_upd {n : Nat} {c : Int32} : ∀ a, a ≤ n → cnt (upd kd n c) a = cnt kd a := by
  intro a
  induction a with
  | zero => intro _; rfl
  | succ a ih =>
    intro h
    show cnt (upd kd n c) a + _ = cnt kd a + _
    rw [ih (by omega), pk_un (show a ≠ n by omega)]
end CN
section SA
variable {fi : Nat → Int32} {fl : Nat → Int64} {ai : Nat → Nat → Int32} {al : Nat → Nat → Int64} {p nc ns na nd nr no : Nat} {v1 v2 v3 v4 x : Int32}
theorem Pl_placeOf_s {K : Int32 → Prop} (h4 : fi 4 = nI nd) (h6 : nd ≤ 6) (hy : ∀ k, k < nd → ai 10 k = x → (∀ j, j < k → ¬ ai 10 j = x) → K (nI k)) (hno : (∀ k, k < nd → ¬ ai 10 k = x) → K (-1)) : Pl_placeOf_w fi fl ai al x K := by
  unfold Pl_placeOf_w
  rw [h4]
  refine lp1_c nd (by omega) (fun k => ∀ j, j < k → ¬ ai 10 j = x) (fun L k hk hI hL => ?_) 0 (by omega) (fun j hj => absurd hj (Nat.not_lt_zero _))
  refine br_n (by omega) (by omega) (fun h => hno (fun j hj => hI j (by omega))) (fun h => ⟨vp_in_nI (by omega) (by omega), ?_⟩)
  rw [nC (by omega)]
  refine br_i Iff.rfl (fun e => hy k h e hI) (fun e => ?_)
  unfold zw_nm
  rw [nI_p1]
  exact hL h (fun j hj => by rcases Nat.lt_or_ge j k with q | q; exact hI j q; rw [show j = k by omega]; exact e)
theorem Mo_actOf_s {K : Int32 → Prop} (h3 : fi 3 = nI na) (h40 : na ≤ 40) (hy : ∀ a, a < na → ai 10 a = 0 → ai 11 a = x → (∀ b, a < b → b < na → ¬ (ai 10 b = 0 ∧ ai 11 b = x)) → K (nI a)) (hno : (∀ a, a < na → ¬ (ai 10 a = 0 ∧ ai 11 a = x)) → K (-1)) : Mo_actOf_w fi fl ai al x K := by
  unfold Mo_actOf_w
  rw [h3]
  refine lp2_d na (by omega) (fun k b => (b = -1 ∧ ∀ a, a < k → ¬ (ai 10 a = 0 ∧ ai 11 a = x)) ∨ ∃ a, a < k ∧ b = nI a ∧ ai 10 a = 0 ∧ ai 11 a = x ∧ ∀ c, a < c → c < k → ¬ (ai 10 c = 0 ∧ ai 11 c = x)) (fun L k b hk hI hL => ?_) 0 (-1) (by omega) (Or.inl ⟨rfl, fun j hj => absurd hj (Nat.not_lt_zero _)⟩)
  refine br_n (by omega) (by omega) (fun h => ?_) (fun h => ⟨vp_in_nI (by omega) (by omega), ?_⟩)
  · rcases hI with ⟨rfl, hI⟩ | ⟨a, h1, rfl, h2, h3, h4⟩
    · exact hno (fun a ha => hI a (by omega))
    · exact hy a (by omega) h2 h3 (fun c hc hc2 => h4 c hc (by omega))
  · rw [nC (by omega)]
    refine jn1_o (fun y => (y = -1 ∧ ∀ a, a < k + 1 → ¬ (ai 10 a = 0 ∧ ai 11 a = x)) ∨ ∃ a, a < k + 1 ∧ y = nI a ∧ ai 10 a = 0 ∧ ai 11 a = x ∧ ∀ c, a < c → c < k + 1 → ¬ (ai 10 c = 0 ∧ ai 11 c = x)) (fun y hY => ?_) (fun J hJ => ?_)
    · unfold zw_nm
      rw [nI_p1]
      exact hL y h hY
    · refine jn0_o (¬ (ai 10 k = 0 ∧ ai 11 k = x)) (fun hne => hJ b ?_) (fun J2 hJ2 => ?_)
      · rcases hI with ⟨rfl, hI⟩ | ⟨a, h1, rfl, h2, h3, h4⟩
        · exact Or.inl ⟨rfl, fun a ha => by rcases Nat.lt_or_ge a k with q | q; exact hI a q; rw [show a = k by omega]; exact hne⟩
        · exact Or.inr ⟨a, by omega, rfl, h2, h3, fun c hc hc2 => by rcases Nat.lt_or_ge c k with q | q; exact h4 c hc q; rw [show c = k by omega]; exact hne⟩
      · refine br_i Iff.rfl (fun e => ⟨vp_in_nI (by omega) (by omega), br_i Iff.rfl (fun e2 => hJ (nI k) (Or.inr ⟨k, by omega, rfl, e, e2, fun c hc hc2 => by omega⟩)) (fun e2 => hJ2 (fun q => e2 q.2))⟩) (fun e => hJ2 (fun q => e q.1))
theorem Pl_hasRoom_s {K : Int32 → Prop} (h2 : fi 2 = nI ns) (h12 : ns ≤ 12) (h3 : fi 3 = nI na) (h40 : na ≤ 40) (h : K (bI (0 < ns ∧ na < 40))) : Pl_hasRoom_w fi fl ai al K := by
  unfold Pl_hasRoom_w
  rw [h2, h3]
  refine br_i (nI_le' (c := 0) (m := 0) rfl (by omega) (by omega)) (fun e => ?_) (fun e => br_i (le_nI (m := 40) rfl (by omega) (by omega)) (fun e2 => ?_) (fun e2 => ?_))
  · rw [bI_f (by omega)] at h; exact h
  · rw [bI_f (by omega)] at h; exact h
  · rw [bI_t (by omega)] at h; exact h
theorem Mo_mayPut_s {K : Int32 → Prop} (h2 : fi 2 = nI ns) (h12 : ns ≤ 12) (h3 : fi 3 = nI na) (h40 : na ≤ 40) (h : K (bI (0 < ns ∧ na < 40))) : Mo_mayPut_w fi fl ai al K := by
  unfold Mo_mayPut_w
  rw [h2, h3]
  refine br_i (nI_le' (c := 0) (m := 0) rfl (by omega) (by omega)) (fun e => ?_) (fun e => br_i (le_nI (m := 40) rfl (by omega) (by omega)) (fun e2 => ?_) (fun e2 => ?_))
  · rw [bI_f (by omega)] at h; exact h
  · rw [bI_f (by omega)] at h; exact h
  · rw [bI_t (by omega)] at h; exact h
/-- the acts with one more -/
def ac4 (ai : Nat → Nat → Int32) (q na : Nat) (c w t s : Int32) : Nat → Nat → Int32 := va_up (va_up (va_up (va_up ai q (upd (ai q) na c)) (q + 1) (upd (ai (q + 1)) na w)) (q + 2) (upd (ai (q + 2)) na t)) (q + 3) (upd (ai (q + 3)) na s)
theorem Pl_putAct_s {K : (Nat → Int32) → (Nat → Nat → Int32) → Prop} (h2 : fi 2 = nI ns) (h0 : 0 < ns) (h12 : ns ≤ 12) (h3 : fi 3 = nI na) (h40 : na < 40) (h : K (va_up fi 3 (nI (na + 1))) (ac4 ai 6 na v1 v2 v3 (nI (ns - 1)))) : Pl_putAct_w fi fl ai al v1 v2 v3 K := by
  unfold Pl_putAct_w
  rw [h2, h3]
  simp only [zw_nm]
  rw [nC (by omega), nI_p1, nI_s1 (by omega)]
  exact ⟨vp_in_nI (by omega) (by omega), vp_in_nI (by omega) (by omega), vp_in_nI (by omega) (by omega), vp_in_nI (by omega) (by omega), h⟩
theorem Mo_put_s {K : (Nat → Int32) → (Nat → Nat → Int32) → Prop} (h2 : fi 2 = nI ns) (h0 : 0 < ns) (h12 : ns ≤ 12) (h3 : fi 3 = nI na) (h40 : na < 40) (h : K (va_up fi 3 (nI (na + 1))) (ac4 ai 10 na v1 v2 v3 (nI (ns - 1)))) : Mo_put_w fi fl ai al v1 v2 v3 K := by
  unfold Mo_put_w
  rw [h2, h3]
  simp only [zw_nm]
  rw [nC (by omega), nI_p1, nI_s1 (by omega)]
  exact ⟨vp_in_nI (by omega) (by omega), vp_in_nI (by omega) (by omega), vp_in_nI (by omega) (by omega), vp_in_nI (by omega) (by omega), h⟩
theorem ac4_o {q na j : Nat} {c w t s : Int32} (h : j < q ∨ q + 4 ≤ j) : ac4 ai q na c w t s j = ai j := by
  unfold ac4
  rw [va_n _ _ (show j ≠ q + 3 by omega), va_n _ _ (show j ≠ q + 2 by omega), va_n _ _ (show j ≠ q + 1 by omega), va_n _ _ (show j ≠ q by omega)]
end SA
/-- an act that is no ADD -/
theorem RlN.put {p nc ns na nd nr no : Nat} {fi gi : Nat → Int32} {ai bi : Nat → Nat → Int32} {al bl : Nat → Nat → Int64} {c w t : Int32} (h : RlN p nc ns na nd nr no fi ai al gi bi bl) (hs : 0 < ns) (hna : na < 40) (hc : ¬ c = 0) (hk : (c = 1 ∧ isP p w ∧ isR (-1000) 1000 t ∧ ∃ k, k < nd ∧ ai 10 k = w) ∨ (c = 2 ∧ isP 3 w) ∨ (c = 3 ∧ isP 3 w)) :
    RlN p nc ns (na + 1) nd nr no (va_up fi 3 (nI (na + 1))) (ac4 ai 6 na c w t (nI (ns - 1))) al (va_up gi 3 (nI (na + 1))) (ac4 bi 10 na c w t (nI (ns - 1))) bl := by
  obtain ⟨hn, hC, hg, hk0, hd, ha, hw, hf, he, ho, hr, hq⟩ := h
  obtain ⟨n1, n2, n3, n4, n5, n6, n7, n8⟩ := hn
  obtain ⟨c7, g0, c1, g1, c2, g2, c3, g3, c4, c6, g6, c11, g7, c5, c0, c0r⟩ := hC
  refine ⟨⟨n1, n2, n3, n4, by omega, n6, n7, n8⟩, ⟨c7, g0, c1, g1, c2, g2, rfl, rfl, c4, c6, g6, c11, g7, c5, c0, c0r⟩, hg.c (fun q _ _ => ac4_o (by omega)) (fun q _ _ => ac4_o (by omega)), hk0, hd, ⟨fun a ha2 => ?_, fun a ha2 => ?_⟩, ⟨?_, fun a ha2 h0 => ?_, hw.2.2.1, fun a ha2 h0 => ?_⟩, hf, he, ho, hr, hq⟩
  · show upd (bi 10) na c a = upd (ai 6) na c a ∧ upd (bi 11) na w a = upd (ai 7) na w a ∧ upd (bi 12) na t a = upd (ai 8) na t a ∧ upd (bi 13) na (nI (ns - 1)) a = upd (ai 9) na (nI (ns - 1)) a ∧ isP ns (upd (ai 9) na (nI (ns - 1)) a) ∧ ((upd (ai 6) na c a = 0 ∧ isP p (upd (ai 7) na w a)) ∨ (upd (ai 6) na c a = 1 ∧ isP p (upd (ai 7) na w a) ∧ isR (-1000) 1000 (upd (ai 8) na t a)) ∨ (upd (ai 6) na c a = 2 ∧ isP 3 (upd (ai 7) na w a)) ∨ (upd (ai 6) na c a = 3 ∧ isP 3 (upd (ai 7) na w a)))
    by_cases e : a = na
    · subst e
      simp only [pk_us]
      exact ⟨trivial, trivial, trivial, trivial, isP_nI (by omega) (by omega), by rcases hk with q | q | q; exact Or.inr (Or.inl ⟨q.1, q.2.1, q.2.2.1⟩); exact Or.inr (Or.inr (Or.inl q)); exact Or.inr (Or.inr (Or.inr q))⟩
    · simp only [pk_un e]; exact ha.1 a (by omega)
  · show (upd (ai 9) na (nI (ns - 1)) a).toInt ≤ (upd (ai 9) na (nI (ns - 1)) (a + 1)).toInt
    rw [pk_un (show a ≠ na by omega)]
    by_cases e : a + 1 = na
    · rw [e, pk_us, nT (by omega)]
      have := (ha.1 a (by omega)).2.2.2.2.1.2
      omega
    · rw [pk_un e]; exact ha.2 a (by omega)
  · show nd = cnt (upd (ai 6) na c) (na + 1)
    rw [cnt_s1 (by rw [pk_us]; exact hc), cnt_upd na (Nat.le_refl _)]
    exact hw.1
  · have e : a ≠ na := fun e => by
      have h1 : upd (ai 6) na c a = 0 := h0
      rw [e, pk_us] at h1; exact hc h1
    have h1 : upd (ai 6) na c a = 0 := h0
    rw [pk_un e] at h1
    show ai 10 (cnt (upd (ai 6) na c) a) = upd (ai 7) na w a ∧ ai 11 (cnt (upd (ai 6) na c) a) = upd (ai 9) na (nI (ns - 1)) a
    rw [cnt_upd a (by omega), pk_un e, pk_un e]
    exact hw.2.1 a (by omega) h1
  · have h1 : upd (ai 6) na c a = 1 := h0
    show ∃ k, k < cnt (upd (ai 6) na c) a ∧ ai 10 k = upd (ai 7) na w a
    rw [cnt_upd a (by omega)]
    by_cases e : a = na
    · subst e
      rw [pk_us] at h1 ⊢
      rw [← hw.1]
      rcases hk with q | q | q
      · exact q.2.2.2
      · exact absurd (q.1.symm.trans h1) (by decide)
      · exact absurd (q.1.symm.trans h1) (by decide)
    · rw [pk_un e] at h1 ⊢
      exact hw.2.2.2 a (by omega) h1
/-- a part is in the row where an act adds it -/
theorem RlN.there {p nc ns na nd nr no : Nat} {fi gi : Nat → Int32} {ai bi : Nat → Nat → Int32} {al bl : Nat → Nat → Int64} (h : RlN p nc ns na nd nr no fi ai al gi bi bl) (x : Int32) : (∃ k, k < nd ∧ ai 10 k = x) ↔ ∃ a, a < na ∧ bi 10 a = 0 ∧ bi 11 a = x := by
  obtain ⟨hn, hC, hg, hk0, hd, ha, hw, hf, he, ho, hr, hq⟩ := h
  constructor
  · rintro ⟨k, hk, e⟩
    rw [hw.1] at hk
    obtain ⟨a, h1, h2, h3⟩ := cnt_at na hk
    refine ⟨a, h1, by rw [(ha.1 a h1).1]; exact h2, ?_⟩
    rw [(ha.1 a h1).2.1, ← (hw.2.1 a h1 h2).1, h3]
    exact e
  · rintro ⟨a, h1, h2, h3⟩
    rw [(ha.1 a h1).1] at h2
    rw [(ha.1 a h1).2.1] at h3
    exact ⟨cnt (ai 6) a, by rw [hw.1]; exact cnt_lt h1 h2, by rw [(hw.2.1 a h1 h2).1]; exact h3⟩
