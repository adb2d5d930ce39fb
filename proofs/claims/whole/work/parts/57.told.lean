/-! PURE: the reference's takePlan; told; shift -/
theorem cnt_c {kd kd' : Nat → Int32} {n : Nat} (h : ∀ a, a < n → kd' a = kd a) : ∀ a, a ≤ n → cnt kd' a = cnt kd a := by
  intro a
  induction a with
  | zero => intro _; rfl
  | succ a ih =>
    intro ha
    show cnt kd' a + _ = cnt kd a + _
    rw [ih (by omega), h a (by omega)]
section SE
variable {fi : Nat → Int32} {fl : Nat → Int64} {ai : Nat → Nat → Int32} {al : Nat → Nat → Int64} {p nc ns na nd nr no : Nat} {v1 v2 v3 v4 x : Int32}
theorem Mo_takePlan_s {K : (Nat → Int32) → (Nat → Nat → Int32) → Prop} (h3 : fi 3 = nI na) (h40 : na ≤ 40) (h6 : cnt (ai 10) na ≤ 6) (hy : ∀ tk : Nat → Int32, (∀ a, a < na → ai 10 a = 0 → tk (cnt (ai 10) a) = ai 11 a) → K (va_up fi 8 (nI (cnt (ai 10) na))) (va_up ai 20 tk)) : Mo_takePlan_w fi fl ai al K := by
  unfold Mo_takePlan_w
  simp only [zw_nm]
  refine lp3_c na (by omega) (fun k f A => f = va_up fi 8 (nI (cnt (ai 10) k)) ∧ ∃ tk : Nat → Int32, A = va_up ai 20 tk ∧ ∀ a, a < k → ai 10 a = 0 → tk (cnt (ai 10) a) = ai 11 a) (fun L k f A hk hI hL => ?_) 0 _ _ (by omega) ⟨rfl, ai 20, ?_, fun a h => absurd h (Nat.not_lt_zero _)⟩
  · obtain ⟨rfl, tk, rfl, ht⟩ := hI
    rw [va_n _ _ (show 3 ≠ 8 by omega), h3]
    refine br_n (by omega) (by omega) (fun h => ?_) (fun h => ⟨vp_in_nI (by omega) (by omega), ?_⟩)
    · rw [show k = na by omega]
      exact hy tk (fun a h1 => ht a (by omega))
    · rw [nC (by omega), va_n _ _ (show 10 ≠ 20 by omega), va_n _ _ (show 11 ≠ 20 by omega), va_s, va_s]
      have hc : cnt (ai 10) k ≤ cnt (ai 10) na := cnt_mono (by omega)
      refine jn2_o (fun f A => f = va_up fi 8 (nI (cnt (ai 10) (k + 1))) ∧ ∃ tk : Nat → Int32, A = va_up ai 20 tk ∧ ∀ a, a < k + 1 → ai 10 a = 0 → tk (cnt (ai 10) a) = ai 11 a) (fun f A hY => ?_) (fun J hJ => br_i Iff.rfl (fun e => ?_) (fun e => hJ _ _ ?_))
      · rw [nI_p1]; exact hL f A h hY
      · have hlt := cnt_lt (kd := ai 10) h e
        refine ⟨vp_in_nI (by omega) (by omega), vp_in_nI (by omega) (by omega), hJ _ _ ⟨?_, upd tk (cnt (ai 10) k) (ai 11 k), ?_, fun a h1 h2 => ?_⟩⟩
        · rw [bx_uu, nI_p1, cnt_s0 e]
        · rw [bx_uu, nC (by omega)]
        · rcases Nat.lt_or_ge a k with q | q
          · rw [pk_un (Nat.ne_of_lt (cnt_lt q h2))]; exact ht a q h2
          · rw [show a = k by omega, pk_us]
      · refine ⟨by rw [cnt_s1 e], tk, rfl, fun a h1 h2 => ?_⟩
        rcases Nat.lt_or_ge a k with q | q
        · exact ht a q h2
        · exact absurd (show a = k by omega) (fun z => e (z ▸ h2))
  · funext q j
    unfold va_up
    by_cases e : q = 20
    · rw [if_pos e, e]
    · rw [if_neg e]
end SE
/-- the reference's taken row is the class's -/
theorem RlN.take {p nc ns na nd nr no : Nat} {fi gi : Nat → Int32} {gl : Nat → Int64} {ai bi : Nat → Nat → Int32} {al bl : Nat → Nat → Int64} {K : (Nat → Int32) → (Nat → Nat → Int32) → Prop} (h : RlN p nc ns na nd nr no fi ai al gi bi bl) (hy : ∀ tk : Nat → Int32, (∀ k, k < nd → tk k = ai 10 k) → K (va_up gi 8 (nI nd)) (va_up bi 20 tk)) : Mo_takePlan_w gi gl bi bl K := by
  obtain ⟨hn, hC, hg, hk0, hd, ha, hw, hf, he, ho, hr, hq⟩ := h
  obtain ⟨n1, n2, n3, n4, n5, n6, n7, n8⟩ := hn
  obtain ⟨c7, g0, c1, g1, c2, g2, c3, g3, c4, c6, g6, c11, g7, c5, c0, c0r⟩ := hC
  have hc : ∀ a, a ≤ na → cnt (bi 10) a = cnt (ai 6) a := cnt_c (fun a h => (ha.1 a h).1)
  refine Mo_takePlan_s g3 n5 (by rw [hc na (Nat.le_refl _), ← hw.1]; exact n6) (fun tk ht => ?_)
  rw [hc na (Nat.le_refl _), ← hw.1]
  refine hy tk (fun k hk => ?_)
  rw [hw.1] at hk
  obtain ⟨a, h1, h2, h3⟩ := cnt_at na hk
  have := ht a h1 (by rw [(ha.1 a h1).1]; exact h2)
  rw [hc a (by omega), h3, (ha.1 a h1).2.1] at this
  rw [this, ← (hw.2.1 a h1 h2).1, h3]
theorem Km.take {gi : Nat → Int32} {bi : Nat → Nat → Int32} {bl : Nat → Nat → Int64} {n : Int32} {tk : Nat → Int32} : Km gi bi bl (va_up gi 8 n) (va_up bi 20 tk) bl :=
  ⟨fun k hk => va_n _ _ (by omega), fun q hq => va_n _ _ (by omega), rfl⟩
theorem on3 {b : Int32} {f : Nat → Bool} (h : ∀ k, k < 32 → bt b k = f k) (h3 : ∀ k, 3 ≤ k → f k = false) : b = (if f 0 = true then 1 else 0) + (if f 1 = true then 2 else 0) + (if f 2 = true then 4 else 0) := by
  apply b_ext
  intro i hi
  rw [h i hi]
  have key : ∀ i, i < 32 → (if i = 0 then f 0 else if i = 1 then f 1 else if i = 2 then f 2 else false) = bt ((if f 0 = true then 1 else 0) + (if f 1 = true then 2 else 0) + (if f 2 = true then 4 else 0)) i := by
    cases f 0 <;> cases f 1 <;> cases f 2 <;> decide +kernel
  rw [← key i hi]
  by_cases e0 : i = 0
  · rw [if_pos e0, e0]
  · by_cases e1 : i = 1
    · rw [if_neg e0, if_pos e1, e1]
    · by_cases e2 : i = 2
      · rw [if_neg e0, if_neg e1, if_pos e2, e2]
      · rw [if_neg e0, if_neg e1, if_neg e2]; exact h3 i (by omega)
theorem RlN.onBig {p nc ns na nd nr no : Nat} {fi gi : Nat → Int32} {ai bi : Nat → Nat → Int32} {al bl : Nat → Nat → Int64} (h : RlN p nc ns na nd nr no fi ai al gi bi bl) {k : Nat} (hk : 3 ≤ k) (hk2 : k < 1000) : onk (ai 6) (ai 7) k na = false := by
  have : ∀ a, a ≤ na → onk (ai 6) (ai 7) k a = false := by
    intro a
    induction a with
    | zero => intro _; rfl
    | succ a ih =>
      intro h1
      rw [onk_s]
      have ne : ai 6 a = 2 ∨ ai 6 a = 3 → ¬ ai 7 a = nI k := fun h2 e => by
        have := (h.k3 a (by omega) h2).2
        rw [e, nT (by omega)] at this
        omega
      rw [if_neg (fun q => ne (Or.inl q.1) q.2), if_neg (fun q => ne (Or.inr q.1) q.2)]
      exact ih (by omega)
  exact this na (Nat.le_refl _)
theorem b32 {f : Nat → Bool} {na : Nat} : True := trivial
theorem Pl_endDay_s {fi : Nat → Int32} {fl : Nat → Int64} {ai : Nat → Nat → Int32} {al : Nat → Nat → Int64} {ns : Nat} {K : Int32 → Prop} (h2 : fi 2 = nI ns) (h12 : ns ≤ 12) (h0 : 0 < ns) (hd : 0 ≤ (ai 5 (ns - 1)).toInt) (he : fi 5 = -1 ∨ (ai 5 (ns - 1)).toInt ≤ (fi 5).toInt) (h : K (if fi 5 = -1 then ai 5 (ns - 1) else fi 5)) : Pl_endDay_w fi fl ai al K := by
  unfold Pl_endDay_w
  refine Pl_lastDay_p h2 h12 h0 ?_
  unfold zw_nm
  rcases he with he | he
  · rw [if_neg (show ¬ ai 5 (ns - 1) < fi 5 by rw [i_lt, he, show (-1 : Int32).toInt = -1 from rfl]; omega)]
    rw [if_pos he] at h; exact h
  · by_cases e : ai 5 (ns - 1) < fi 5
    · rw [if_pos e]
      rw [if_neg (show ¬ fi 5 = -1 by intro q; rw [q, show (-1 : Int32).toInt = -1 from rfl] at he; omega)] at h; exact h
    · rw [if_neg e]
      have e2 : ai 5 (ns - 1) = fi 5 := by rw [i_lt] at e; rw [i_eq]; omega
      rw [if_neg (show ¬ fi 5 = -1 by intro q; rw [q, show (-1 : Int32).toInt = -1 from rfl] at he; omega)] at h
      rw [e2]; exact h
theorem Mo_endDay_s {fi : Nat → Int32} {fl : Nat → Int64} {ai : Nat → Nat → Int32} {al : Nat → Nat → Int64} {ns : Nat} {K : Int32 → Prop} (h2 : fi 2 = nI ns) (h12 : ns ≤ 12) (h0 : 0 < ns) (he : fi 4 = -1 ∨ 0 ≤ (fi 4).toInt) (h : K (if fi 4 = -1 then ai 9 (ns - 1) else fi 4)) : Mo_endDay_w fi fl ai al K := by
  unfold Mo_endDay_w
  rcases he with he | he
  · rw [if_neg (show ¬ 0 ≤ fi 4 by rw [he]; decide)]
    rw [if_pos he] at h
    exact Mo_lastDay_p h2 h12 h0 h
  · rw [if_pos (show 0 ≤ fi 4 by rw [i_le]; exact he)]
    rw [if_neg (show ¬ fi 4 = -1 by intro q; rw [q, show (-1 : Int32).toInt = -1 from rfl] at he; omega)] at h
    exact h
theorem s_told : st_told Rl := by
  intro fi fl ai al gi gl bi bl v1 hR
  obtain ⟨p, nc, ns, na, nd, nr, no, hN⟩ := Rl.e hR
  obtain ⟨hn, hC, hg, hk, hd, ha, hw, hf, he, ho, hr, hq⟩ := id hN
  obtain ⟨n1, n2, n3, n4, n5, n6, n7, n8⟩ := id hn
  obtain ⟨c7, g0, c1, g1, c2, g2, c3, g3, c4, c6, g6, c11, g7, c5, c0, c0r⟩ := id hC
  have keep : ∀ tk : Nat → Int32, Rl (fi, fl, ai, al) (va_up gi 8 (nI nd), gl, va_up bi 20 tk, bl) := fun tk => Rl.i p nc ns na nd nr no (hN.keep Kc.rf Km.take)
  unfold SS_told_w Mo_told_w
  refine br_i Iff.rfl (fun e => ?_) (fun e0 => br_i Iff.rfl (fun e => ?_) (fun e1 => br_i Iff.rfl (fun e => ?_) (fun e2 => br_i Iff.rfl (fun e => ?_) (fun e3 => br_i Iff.rfl (fun e => ?_) (fun e4 => br_i Iff.rfl (fun e => ?_) (fun e5 => ?_))))))
  · refine hN.take (fun tk _ => ?_)
    rw [if_pos e]
    exact ⟨by rw [va_n _ _ (show 2 ≠ 8 by omega), c2, g2], keep tk⟩
  · refine hN.take (fun tk _ => ?_)
    rw [if_neg e0, if_pos e]
    exact ⟨by rw [va_n _ _ (show 3 ≠ 8 by omega), c3, g3], keep tk⟩
  · refine hN.take (fun tk _ => ?_)
    rw [if_neg e0, if_neg e1, if_pos e]
    exact ⟨by rw [va_s, c4], keep tk⟩
  · refine Pl_onBits_s c3 n5 hN.k3 (fun b hb => hN.take (fun tk _ => ?_))
    rw [if_neg e0, if_neg e1, if_neg e2, if_pos e]
    have hb3 := on3 (f := fun k => if k < 32 then onk (ai 6) (ai 7) k na else false) (b := b) (fun k hk => by rw [hb k hk]; simp [hk]) (fun k hk => by
      by_cases q : k < 32
      · simp [q]; exact hN.onBig hk (by omega)
      · simp [q])
    have g3' : va_up gi 8 (nI nd) 3 = nI na := by rw [va_n _ _ (show 3 ≠ 8 by omega)]; exact g3
    have on : ∀ k, onk (va_up bi 20 tk 10) (va_up bi 20 tk 11) k na = onk (ai 6) (ai 7) k na := fun k => hN.onEq k
    have k4 : ∀ a, a < na → va_up bi 20 tk 10 a = 0 ∨ va_up bi 20 tk 10 a = 1 ∨ va_up bi 20 tk 10 a = 2 ∨ va_up bi 20 tk 10 a = 3 := hN.k4
    refine Mo_isOn_s (k := 0) (by omega) g3' n5 k4 ?_
    rw [on 0]
    refine jn1_o (fun y => y = if onk (ai 6) (ai 7) 0 na = true then 1 else 0) (fun y0 hY0 => ?_) (fun J hJ => br_b (fun q => hJ _ (by rw [if_pos q])) (fun q => hJ _ (by rw [if_neg q])))
    refine Mo_isOn_s (k := 1) (by omega) g3' n5 k4 ?_
    rw [on 1]
    refine jn1_o (fun y => y = if onk (ai 6) (ai 7) 1 na = true then 2 else 0) (fun y1 hY1 => ?_) (fun J hJ => br_b (fun q => hJ _ (by rw [if_pos q])) (fun q => hJ _ (by rw [if_neg q])))
    refine Mo_isOn_s (k := 2) (by omega) g3' n5 k4 ?_
    rw [on 2]
    have hb4 : b = y0 + y1 + (if onk (ai 6) (ai 7) 2 na = true then 4 else 0) := by rw [hb3, hY0, hY1]; rfl
    refine br_b (fun q => ⟨?_, keep tk⟩) (fun q => ⟨?_, keep tk⟩)
    · rw [hb4, if_pos q]
    · rw [hb4, if_neg q]
  · refine hN.take (fun tk _ => ?_)
    rw [if_neg e0, if_neg e1, if_neg e2, if_neg e3, if_pos e]
    exact ⟨by rw [va_n _ _ (show 6 ≠ 8 by omega), c6, g6], keep tk⟩
  · rw [c2]
    refine br_i (eq_nI (c := 0) (m := 0) rfl (by omega) (by omega)) (fun z => hN.take (fun tk _ => ?_)) (fun z => ?_)
    · rw [if_neg e0, if_neg e1, if_neg e2, if_neg e3, if_neg e4, if_pos e, va_n _ _ (show 2 ≠ 8 by omega), g2, if_pos (by rw [z]; rfl)]
      exact ⟨rfl, keep tk⟩
    · refine Pl_endDay_s c2 n4 (by omega) (hd.1 _ (by omega)).2.1 (by rcases he with he | he; exact Or.inl he; exact Or.inr he.2.1) (hN.take (fun tk _ => ?_))
      rw [if_neg e0, if_neg e1, if_neg e2, if_neg e3, if_neg e4, if_pos e, va_n _ _ (show 2 ≠ 8 by omega), g2, if_neg (show ¬ nI ns = 0 from fun q => z ((eq_nI (c := 0) (m := 0) rfl (by omega) (by omega)).mp q))]
      refine Mo_endDay_s (ns := ns) (by rw [va_n _ _ (show 2 ≠ 8 by omega)]; exact g2) n4 (by omega) ?_ ⟨?_, keep tk⟩
      · rw [va_n _ _ (show 4 ≠ 8 by omega), ← c5]
        rcases he with he | he
        · exact Or.inl he
        · exact Or.inr (by have := (hd.1 (ns - 1) (by omega)).2.1; omega)
      · rw [va_n _ _ (show 4 ≠ 8 by omega), ← c5, va_n _ _ (show 9 ≠ 20 by omega), (hd.1 (ns - 1) (by omega)).1]
  · refine hN.take (fun tk _ => ?_)
    rw [if_neg e0, if_neg e1, if_neg e2, if_neg e3, if_neg e4, if_neg e5]
    exact ⟨rfl, keep tk⟩
