/-! PURE: redo -/
theorem Ra.mono {p ns na : Nat} {ai bi : Nat → Nat → Int32} (h : Ra p ns na ai bi) {i j : Nat} (hij : i ≤ j) (hj : j < na) : (ai 9 i).toInt ≤ (ai 9 j).toInt := by
  induction hij with
  | refl => exact Int.le_refl _
  | @step m _ ih =>
    have h1 := h.2 m hj
    have h2 := ih (by omega)
    show (ai 9 i).toInt ≤ (ai 9 (m + 1)).toInt
    omega
/-- how many of the first n have a stage below s, when stages don't fall -/
def cut (sg : Nat → Int32) (s : Int) : Nat → Nat
  | 0 => 0
  | n + 1 => if (sg n).toInt < s then n + 1 else cut sg s n
theorem cut_le (sg : Nat → Int32) (s : Int) : ∀ n, cut sg s n ≤ n := by
  intro n
  induction n with
  | zero => exact Nat.le_refl _
  | succ n ih =>
    unfold cut
    by_cases h : (sg n).toInt < s
    · rw [if_pos h]; exact Nat.le_refl _
    · rw [if_neg h]; omega
theorem cut_ge {sg : Nat → Int32} {s : Int} : ∀ n a, cut sg s n ≤ a → a < n → s ≤ (sg a).toInt := by
  intro n
  induction n with
  | zero => intro a _ h; exact absurd h (Nat.not_lt_zero _)
  | succ n ih =>
    intro a h1 h2
    unfold cut at h1
    by_cases h : (sg n).toInt < s
    · rw [if_pos h] at h1; omega
    · rw [if_neg h] at h1
      rcases Nat.lt_or_ge a n with q | q
      · exact ih a h1 q
      · rw [show a = n by omega]; omega
theorem cut_last {sg : Nat → Int32} {s : Int} : ∀ n, 0 < cut sg s n → (sg (cut sg s n - 1)).toInt < s := by
  intro n
  induction n with
  | zero => intro h; exact absurd h (Nat.not_lt_zero _)
  | succ n ih =>
    intro h1
    unfold cut at h1 ⊢
    by_cases h : (sg n).toInt < s
    · rw [if_pos h]; exact h
    · rw [if_neg h] at h1 ⊢; exact ih h1
theorem cut_uniq {sg : Nat → Int32} {s : Int} {n c : Nat} (h1 : c ≤ n) (h2 : ∀ j, c ≤ j → j < n → s ≤ (sg j).toInt) (h3 : 0 < c → (sg (c - 1)).toInt < s) : cut sg s n = c := by
  have a1 := cut_le sg s n
  rcases Nat.lt_trichotomy (cut sg s n) c with q | q | q
  · have := cut_ge (sg := sg) (s := s) n (c - 1) (by omega) (by omega)
    have := h3 (by omega)
    omega
  · exact q
  · have := cut_last (sg := sg) (s := s) n (by omega)
    have := h2 (cut sg s n - 1) (by omega) (by omega)
    omega
/-- offsets of parts (below k) that are added in stage s or later are 0 -/
def offZ (O : Nat → Int64) (row ast : Nat → Int32) (s : Int) (n k : Nat) : Nat → Int64 := fun i => if i < k ∧ ∃ j, j < n ∧ row j = nI i ∧ s ≤ (ast j).toInt then 0 else O i
def offM (O : Nat → Int64) (kd wh : Nat → Int32) (n k : Nat) : Nat → Int64 := fun i => if ∃ a, a < n ∧ k ≤ a ∧ kd a = 0 ∧ (wh a).toNatClampNeg = i then 0 else O i
theorem offZ_s (O : Nat → Int64) (row ast : Nat → Int32) (s : Int) (n k : Nat) : ((∃ j, j < n ∧ row j = nI k ∧ s ≤ (ast j).toInt) → vp_updL (offZ O row ast s n k) k 0 = offZ O row ast s n (k + 1)) ∧ ((¬ ∃ j, j < n ∧ row j = nI k ∧ s ≤ (ast j).toInt) → offZ O row ast s n k = offZ O row ast s n (k + 1)) := by
  constructor
  · intro h
    funext i
    by_cases e : i = k
    · subst e
      rw [pk_uLs]
      unfold offZ
      rw [if_pos ⟨by omega, h⟩]
    · rw [pk_uLn e]
      unfold offZ
      by_cases q : i < k ∧ ∃ j, j < n ∧ row j = nI i ∧ s ≤ (ast j).toInt
      · rw [if_pos q, if_pos ⟨by omega, q.2⟩]
      · rw [if_neg q, if_neg (fun z => q ⟨by omega, z.2⟩)]
  · intro h
    funext i
    unfold offZ
    by_cases e : i = k
    · subst e
      rw [if_neg (fun z => h z.2), if_neg (fun z => h z.2)]
    · by_cases q : i < k ∧ ∃ j, j < n ∧ row j = nI i ∧ s ≤ (ast j).toInt
      · rw [if_pos q, if_pos ⟨by omega, q.2⟩]
      · rw [if_neg q, if_neg (fun z => q ⟨by omega, z.2⟩)]
theorem offZ_0 (O : Nat → Int64) (row ast : Nat → Int32) (s : Int) (n : Nat) : offZ O row ast s n 0 = O := by
  funext i
  unfold offZ
  rw [if_neg (fun z => absurd z.1 (Nat.not_lt_zero _))]
theorem offM_n (O : Nat → Int64) (kd wh : Nat → Int32) (n : Nat) : offM O kd wh n n = O := by
  funext i
  unfold offM
  rw [if_neg (by rintro ⟨a, h1, h2, -⟩; omega)]
section RD
variable {fi : Nat → Int32} {fl : Nat → Int64} {ai : Nat → Nat → Int32} {al : Nat → Nat → Int64} {p ns na nd s : Nat} {v1 v2 : Int32}
theorem Pl_stageOf_s {K : Int32 → Prop} {x : Int32} (h4 : fi 4 = nI nd) (h6 : nd ≤ 6) (hy : ∀ k, k < nd → ai 10 k = x → (∀ j, j < k → ¬ ai 10 j = x) → K (ai 11 k)) (hno : (∀ k, k < nd → ¬ ai 10 k = x) → K (-1)) : Pl_stageOf_w fi fl ai al x K := by
  unfold Pl_stageOf_w
  refine Pl_placeOf_s h4 h6 (fun k hk e hf => ?_) (fun h => ?_)
  · refine br_i (le_nI (c := 0) (m := 0) rfl (by omega) (by omega)) (fun _ => ?_) (fun q => absurd (Nat.zero_le _) q)
    rw [nC (by omega)]
    exact ⟨vp_in_nI (by omega) (by omega), hy k hk e hf⟩
  · exact br_i (Iff.refl _) (fun q => absurd q (by decide)) (fun _ => hno h)
/-- the two loops of cutFrom, by their ends -/
theorem Pl_cutFrom_s {K : Int32 → (Nat → Int32) → Prop} (h3 : fi 3 = nI na) (h40 : na ≤ 40) (h4 : fi 4 = nI nd) (h6 : nd ≤ 6) (hs : s ≤ 12)
    (h : K (nI na - nI (cut (ai 9) s na)) (if s = 0 then va_up (va_up (va_up (va_up fi 3 (nI (cut (ai 9) s na))) 4 (nI (cut (ai 11) s nd))) 2 (nI s)) 5 (-1) else va_up (va_up (va_up fi 3 (nI (cut (ai 9) s na))) 4 (nI (cut (ai 11) s nd))) 2 (nI s))) : Pl_cutFrom_w fi fl ai al (nI s) K := by
  have tail : ∀ (f : Nat → Int32), f = va_up fi 3 (nI (cut (ai 9) s na)) → zw_lp1 (fun L40 (fi40 : Nat → Int32) => zw_jn0 (zw_nm (va_up fi40 2 (nI s)) (fun (fi_77 : Nat → Int32) => zw_jn1 (fun (fi92 : Nat → Int32) => K ((nI na) - (fi92 3)) fi92) (fun J92 => if (fi_77 2) = 0 then (zw_nm (va_up fi_77 5 (-1 : Int32)) (fun (fi_89 : Nat → Int32) => J92 fi_89)) else (J92 fi_77)))) (fun J75 => if (fi40 4) ≤ 0 then (J75) else (vp_in ((fi40 4) - (1 : Int32)) 6 ∧ (if (ai 11 ((fi40 4) - (1 : Int32)).toNatClampNeg) < nI s then (J75) else (zw_nm (va_up fi40 4 ((fi40 4) - (1 : Int32))) (fun (fi_69 : Nat → Int32) => L40 fi_69)))))) f := by
    intro f hf
    refine zw_lp1_m (fun g => ∃ k, k ≤ nd ∧ g = va_up f 4 (nI k) ∧ cut (ai 11) s k = cut (ai 11) s nd) (fun g => (g 4).toNatClampNeg) (fun L g hg hL => ?_) f ⟨nd, Nat.le_refl _, by rw [← h4, hf, show fi 4 = va_up fi 3 (nI (cut (ai 9) s na)) 4 from (va_n _ _ (by omega)).symm, va_self], rfl⟩
    obtain ⟨k, hk, rfl, hc⟩ := hg
    refine jn0_o (k = cut (ai 11) s nd) (fun e => ?_) (fun J hJ => ?_)
    · subst e
      unfold zw_nm
      refine jn1_o (fun g => g = if s = 0 then va_up (va_up (va_up f 4 (nI (cut (ai 11) s nd))) 2 (nI s)) 5 (-1) else va_up (va_up f 4 (nI (cut (ai 11) s nd))) 2 (nI s)) (fun g hG => ?_) (fun J hJ => ?_)
      · subst hf
        have e3 : g 3 = nI (cut (ai 9) s na) := by
          rw [hG]
          by_cases z : s = 0
          · rw [if_pos z, va_n _ _ (show 3 ≠ 5 by omega), va_n _ _ (show 3 ≠ 2 by omega), va_n _ _ (show 3 ≠ 4 by omega), va_s]
          · rw [if_neg z, va_n _ _ (show 3 ≠ 2 by omega), va_n _ _ (show 3 ≠ 4 by omega), va_s]
        rw [e3, hG]
        exact h
      · rw [va_s]
        exact br_i (eq_nI (c := 0) (m := 0) rfl (by omega) (by omega)) (fun z => hJ _ (by rw [if_pos z])) (fun z => hJ _ (by rw [if_neg z]))
    · rw [va_s]
      refine br_i (nI_le' (c := 0) (m := 0) rfl (by omega) (by omega)) (fun z => hJ (by rw [← hc, show k = 0 by omega]; rfl)) (fun z => ?_)
      rw [nI_s1 (by omega), nC (by omega)]
      refine ⟨vp_in_nI (by omega) (by omega), br_i (i_lt.trans (by rw [nT (by omega)])) (fun q => hJ ?_) (fun q => ?_)⟩
      · rw [← hc, show k = k - 1 + 1 by omega]
        show _ = if (ai 11 (k - 1)).toInt < (s : Int) then _ else _
        rw [if_pos q]
      · unfold zw_nm
        rw [bx_uu]
        refine hL _ ⟨k - 1, by omega, rfl, ?_⟩ (by rw [va_s, va_s, nC (by omega), nC (by omega)]; omega)
        rw [← hc]
        conv => rhs; rw [show k = k - 1 + 1 by omega]
        show _ = if (ai 11 (k - 1)).toInt < (s : Int) then _ else _
        rw [if_neg q]
  unfold Pl_cutFrom_w
  rw [h3]
  unfold zw_nm
  refine zw_lp1_m (fun g => ∃ k, k ≤ na ∧ g = va_up fi 3 (nI k) ∧ cut (ai 9) s k = cut (ai 9) s na) (fun g => (g 3).toNatClampNeg) (fun L g hg hL => ?_) fi ⟨na, Nat.le_refl _, by rw [← h3, va_self], rfl⟩
  obtain ⟨k, hk, rfl, hc⟩ := hg
  rw [va_s]
  refine br_i (nI_le' (c := 0) (m := 0) rfl (by omega) (by omega)) (fun z => tail _ (by rw [← hc, show k = 0 by omega]; rfl)) (fun z => ?_)
  rw [nI_s1 (by omega), nC (by omega)]
  refine ⟨vp_in_nI (by omega) (by omega), br_i (i_lt.trans (by rw [nT (by omega)])) (fun q => tail _ ?_) (fun q => ?_)⟩
  · rw [← hc]
    conv => rhs; rw [show k = k - 1 + 1 by omega]
    show _ = va_up fi 3 (nI (if (ai 9 (k - 1)).toInt < (s : Int) then _ else _))
    rw [if_pos q, show k - 1 + 1 = k by omega]
  · rw [bx_uu]
    refine hL _ ⟨k - 1, by omega, rfl, ?_⟩ (by rw [va_s, va_s, nC (by omega), nC (by omega)]; omega)
    rw [← hc]
    conv => rhs; rw [show k = k - 1 + 1 by omega]
    show _ = if (ai 9 (k - 1)).toInt < (s : Int) then _ else _
    rw [if_neg q]
end RD
section RM
variable {fi : Nat → Int32} {fl : Nat → Int64} {ai : Nat → Nat → Int32} {al : Nat → Nat → Int64} {p ns na nd s : Nat} {v1 v2 : Int32}
theorem SS_redo_s {K : Int64 → (Nat → Int32) → (Nat → Nat → Int64) → Prop} (hp : fi 7 = nI p) (hp6 : p ≤ 6) (h2 : fi 2 = nI ns) (h12 : ns ≤ 12) (h3 : fi 3 = nI na) (h40 : na ≤ 40) (h4 : fi 4 = nI nd) (h6 : nd ≤ 6) (hinj : ∀ j k, j < nd → k < nd → ai 10 j = ai 10 k → j = k)
    (hy : ∀ s, s < ns → v1 = nI s → K (nI na - nI (cut (ai 9) s na)).toInt64 (if s = 0 then va_up (va_up (va_up (va_up fi 3 (nI (cut (ai 9) s na))) 4 (nI (cut (ai 11) s nd))) 2 (nI s)) 5 (-1) else va_up (va_up (va_up fi 3 (nI (cut (ai 9) s na))) 4 (nI (cut (ai 11) s nd))) 2 (nI s)) (va_up al 17 (offZ (al 17) (ai 10) (ai 11) s nd p)))
    (hno : ¬ isP ns v1 → K (-1000000000000000000) fi al) : SS_redo_w fi fl ai al v1 K := by
  unfold SS_redo_w
  refine Pl_hasStage_s h2 h12 (br_b (fun e1 => ?_) (fun e1 => hno e1))
  obtain ⟨s, hs, hs2, rfl⟩ := isP_of e1
  unfold zw_nm
  rw [hp]
  refine lp2_c p (by omega) (fun k A => A = va_up al 17 (offZ (al 17) (ai 10) (ai 11) s nd k)) (fun L k A hk hI hL => ?_) 0 al (by omega) (by rw [offZ_0, va_self])
  subst hI
  refine br_n (by omega) (by omega) (fun e => ?_) (fun e => ?_)
  · rw [show k = p by omega]
    exact Pl_cutFrom_s h3 h40 h4 h6 (by omega) (hy s hs rfl)
  · have z := offZ_s (al 17) (ai 10) (ai 11) s nd k
    refine Pl_stageOf_s h4 h6 (fun j hj ej _ => ?_) (fun hn => ?_)
    · refine jn1_o (fun A => A = va_up al 17 (offZ (al 17) (ai 10) (ai 11) s nd (k + 1))) (fun A hA => ?_) (fun J hJ => ?_)
      · rw [nI_p1]; exact hL A e hA
      · refine br_i (i_lt.trans (by rw [nT (by omega)])) (fun q => hJ _ ?_) (fun q => ⟨vp_in_nI (by omega) (by omega), hJ _ ?_⟩)
        · rw [z.2 (by
            rintro ⟨j', h1, h2, h3⟩
            obtain rfl := hinj j j' hj h1 (ej.trans h2.symm)
            omega)]
        · rw [va_s, bx_uu, nC (by omega), z.1 ⟨j, hj, ej, by omega⟩]
    · refine jn1_o (fun A => A = va_up al 17 (offZ (al 17) (ai 10) (ai 11) s nd (k + 1))) (fun A hA => ?_) (fun J hJ => ?_)
      · rw [nI_p1]; exact hL A e hA
      · refine br_i (i_lt.trans (by rw [nT (by omega)])) (fun q => hJ _ ?_) (fun q => absurd (show ((-1 : Int32).toInt : Int) < (s : Int) by rw [show (-1 : Int32).toInt = -1 from rfl]; omega) q)
        rw [z.2 (by rintro ⟨j', h1, h2, h3⟩; exact hn j' h1 h2)]
theorem Mo_redo_s {K : Int64 → (Nat → Int32) → (Nat → Nat → Int64) → Prop} (h2 : fi 2 = nI ns) (h12 : ns ≤ 12) (h3 : fi 3 = nI na) (h40 : na ≤ 40) (hw6 : ∀ a, a < na → ai 10 a = 0 → isP 6 (ai 11 a))
    (hy : ∀ s, s < ns → v1 = nI s → K (nI (na - cut (ai 13) s na)).toInt64 (va_up (va_up (va_up fi 3 (nI (cut (ai 13) s na))) 2 (nI s)) 4 (if s = 0 ∨ ¬ ai 9 (s - 1) ≤ fi 4 then -1 else fi 4)) (va_up al 14 (offM (al 14) (ai 10) (ai 11) na (cut (ai 13) s na))))
    (hno : ¬ isP ns v1 → K (-1000000000000000000) fi al) : Mo_redo_w fi fl ai al v1 K := by
  unfold Mo_redo_w
  refine Mo_isStage_s h2 h12 (br_b (fun e1 => ?_) (fun e1 => hno e1))
  obtain ⟨s, hs, hs2, rfl⟩ := isP_of e1
  have h := hy s hs rfl
  unfold zw_nm
  refine zw_lp3_m (fun x g A => ∃ k, k ≤ na ∧ x = nI (na - k) ∧ g = va_up fi 3 (nI k) ∧ A = va_up al 14 (offM (al 14) (ai 10) (ai 11) na k) ∧ cut (ai 13) s k = cut (ai 13) s na) (fun _ g _ => (g 3).toNatClampNeg) (fun L x g A hI hL => ?_) 0 fi al ⟨na, Nat.le_refl _, by rw [Nat.sub_self]; rfl, by rw [← h3, va_self], by rw [offM_n, va_self], rfl⟩
  obtain ⟨k, hk, rfl, rfl, rfl, hc⟩ := hI
  refine jn0_o (k = cut (ai 13) s na) (fun e => ?_) (fun J hJ => ?_)
  · subst e
    unfold Mo_lookAtEnd_w
    refine jn0_o (s = 0 ∨ ¬ ai 9 (s - 1) ≤ fi 4) (fun q => ?_) (fun J hJ => ?_)
    · rw [if_pos q] at h; exact h
    · rw [va_s]
      refine br_i (eq_nI (c := 0) (m := 0) rfl (by omega) (by omega)) (fun q => hJ (Or.inl q)) (fun q => Mo_lastDay_p (ns := s) (va_s _ _ _) (by omega) (by omega) ?_)
      rw [va_n _ _ (show 4 ≠ 2 by omega), va_n _ _ (show 4 ≠ 3 by omega)]
      refine br_i Iff.rfl (fun z => ?_) (fun z => hJ (Or.inr z))
      rw [if_neg (show ¬ (s = 0 ∨ ¬ ai 9 (s - 1) ≤ fi 4) by rintro (y | y); exact q y; exact y z)] at h
      exact h
  · rw [va_s]
    refine br_i (nI_le' (c := 0) (m := 0) rfl (by omega) (by omega)) (fun z => hJ (by rw [← hc, show k = 0 by omega]; rfl)) (fun z => ?_)
    rw [nI_s1 (by omega), nC (by omega)]
    refine ⟨vp_in_nI (by omega) (by omega), br_i (i_lt.trans (by rw [nT (by omega)])) (fun q => hJ ?_) (fun q => ?_)⟩
    · rw [← hc, show k = k - 1 + 1 by omega]
      show _ = if (ai 13 (k - 1)).toInt < (s : Int) then _ else _
      rw [if_pos q]
    · rw [bx_uu]
      dsimp only
      rw [va_s, va_s, nC (by omega), nI_p1]
      have hc2 : cut (ai 13) s (k - 1) = cut (ai 13) s na := by
        rw [← hc]
        conv => rhs; rw [show k = k - 1 + 1 by omega]
        show _ = if (ai 13 (k - 1)).toInt < (s : Int) then _ else _
        rw [if_neg q]
      have lt : (va_up fi 3 (nI (k - 1)) 3).toNatClampNeg < (va_up fi 3 (nI k) 3).toNatClampNeg := by rw [va_s, va_s, nC (by omega), nC (by omega)]; omega
      have e1 : na - k + 1 = na - (k - 1) := by omega
      rw [e1]
      refine ⟨vp_in_nI (by omega) (by omega), br_i Iff.rfl (fun e => ?_) (fun e => hL _ _ _ ⟨k - 1, by omega, rfl, rfl, ?_, hc2⟩ lt)⟩
      · have hw := hw6 (k - 1) (by omega) e
        obtain ⟨w, hw1, hw2, ew⟩ := isP_of hw
        rw [ew, nC hw2]
        refine ⟨vp_in_nI (by omega) (by omega), vp_in_nI (by omega) (by omega), hL _ _ _ ⟨k - 1, by omega, rfl, rfl, ?_, hc2⟩ lt⟩
        rw [bx_uu]
        congr 1
        funext i
        by_cases z2 : i = w
        · subst z2
          rw [pk_uLs]
          unfold offM
          rw [if_pos ⟨k - 1, by omega, Nat.le_refl _, e, by rw [ew, nC hw2]⟩]
        · rw [pk_uLn z2]
          unfold offM
          by_cases y : ∃ a, a < na ∧ k ≤ a ∧ ai 10 a = 0 ∧ (ai 11 a).toNatClampNeg = i
          · obtain ⟨a, y1, y2, y3⟩ := y
            rw [if_pos ⟨a, y1, y2, y3⟩, if_pos ⟨a, y1, by omega, y3⟩]
          · rw [if_neg y, if_neg]
            rintro ⟨a, y1, y2, y3, y4⟩
            rcases Nat.lt_or_ge a k with y5 | y5
            · obtain rfl : a = k - 1 := by omega
              rw [ew, nC hw2] at y4
              exact z2 y4.symm
            · exact y ⟨a, y1, y5, y3, y4⟩
      · congr 1
        funext i
        unfold offM
        by_cases y : ∃ a, a < na ∧ k ≤ a ∧ ai 10 a = 0 ∧ (ai 11 a).toNatClampNeg = i
        · obtain ⟨a, y1, y2, y3⟩ := y
          rw [if_pos ⟨a, y1, y2, y3⟩, if_pos ⟨a, y1, by omega, y3⟩]
        · rw [if_neg y, if_neg]
          rintro ⟨a, y1, y2, y3, y4⟩
          rcases Nat.lt_or_ge a k with y5 | y5
          · obtain rfl : a = k - 1 := by omega
            exact e y3
          · exact y ⟨a, y1, y5, y3, y4⟩
end RM
theorem s_redo : st_redo Rl := by
  intro fi fl ai al gi gl bi bl v1 hR
  obtain ⟨p, nc, ns, na, nd, nr, no, hN⟩ := Rl.e hR
  obtain ⟨hn, hC, hg, hk, hd, ha, hw, hf, he, ho, hr, hq⟩ := id hN
  obtain ⟨n1, n2, n3, n4, n5, n6, n7, n8⟩ := id hn
  obtain ⟨c7, g0, c1, g1, c2, g2, c3, g3, c4, c6, g6, c11, g7, c5, c0, c0r⟩ := id hC
  have wP : ∀ a, a < na → ai 6 a = 0 → isP p (ai 7 a) := fun a h1 h0 => by
    rcases (ha.1 a h1).2.2.2.2.2 with q | q | q | q
    · exact q.2
    · exact q.2.1
    · rw [q.1] at h0; exact absurd h0 (by decide)
    · rw [q.1] at h0; exact absurd h0 (by decide)
  refine SS_redo_s c7 n2 c2 n4 c3 n5 c4 n6 hw.2.2.1 (fun s hs e => ?_) (fun h => ?_)
  · subst e
    refine Mo_redo_s g2 n4 g3 n5 (fun a h1 h0 => ?_) (fun s' hs' e => ?_) (fun h => absurd (isP_nI hs (by omega)) h)
    · rw [(ha.1 a h1).1] at h0
      rw [(ha.1 a h1).2.1]
      have := wP a h1 h0
      unfold isP at this ⊢
      omega
    obtain rfl : s = s' := nI_inj (by omega) (by omega) e
    have cb : cut (bi 13) s na = cut (ai 9) s na := by
      refine cut_uniq (cut_le _ _ _) (fun j h1 h2 => ?_) (fun h => ?_)
      · rw [(ha.1 j h2).2.2.2.1]; exact cut_ge na j h1 h2
      · have := cut_le (ai 9) (s : Int) na
        rw [(ha.1 _ (by omega)).2.2.2.1]; exact cut_last na h
    rw [cb]
    have m1 := cut_le (ai 9) (s : Int) na
    have mlt : ∀ a, a < cut (ai 9) s na → (ai 9 a).toInt < (s : Int) := fun a h1 => by
      have q1 := cut_last (sg := ai 9) (s := (s : Int)) na (by omega)
      have q2 := ha.mono (show a ≤ cut (ai 9) s na - 1 by omega) (by omega)
      omega
    have mge : ∀ a, cut (ai 9) s na ≤ a → a < na → (s : Int) ≤ (ai 9 a).toInt := fun a h1 h2 => cut_ge na a h1 h2
    generalize hm : cut (ai 9) (s : Int) na = m at m1 mlt mge
    have cd : cut (ai 11) s nd = cnt (ai 6) m := by
      refine cut_uniq (by rw [hw.1]; exact cnt_mono m1) (fun j h1 h2 => ?_) (fun h => ?_)
      · rw [hw.1] at h2
        obtain ⟨a, q1, q2, q3⟩ := cnt_at na h2
        have q4 : m ≤ a := by
          rcases Nat.lt_or_ge a m with z | z
          · have := cnt_lt (kd := ai 6) z q2; omega
          · exact z
        rw [← q3, (hw.2.1 a q1 q2).2]
        exact mge a q4 q1
      · obtain ⟨a, q1, q2, q3⟩ := cnt_at (kd := ai 6) (k := cnt (ai 6) m - 1) m (by omega)
        rw [← q3, (hw.2.1 a (by omega) q2).2]
        exact mlt a q1
    rw [cd]
    have cle : cnt (ai 6) m ≤ nd := by rw [hw.1]; exact cnt_mono m1
    have res : (nI na - nI m).toInt64 = (nI (na - m)).toInt64 := by rw [pk_sub m1]
    have off : Ro (va_up al 17 (offZ (al 17) (ai 10) (ai 11) s nd p)) (va_up bl 14 (offM (bl 14) (bi 10) (bi 11) na m)) := by
      intro i hi
      show offM (bl 14) (bi 10) (bi 11) na m i = offZ (al 17) (ai 10) (ai 11) s nd p i
      have e : (∃ a, a < na ∧ m ≤ a ∧ bi 10 a = 0 ∧ (bi 11 a).toNatClampNeg = i) ↔ (i < p ∧ ∃ j, j < nd ∧ ai 10 j = nI i ∧ (s : Int) ≤ (ai 11 j).toInt) := by
        constructor
        · rintro ⟨a, q1, q2, q3, q4⟩
          rw [(ha.1 a q1).1] at q3
          rw [(ha.1 a q1).2.1] at q4
          obtain ⟨w, w1, w2, w3⟩ := isP_of (wP a q1 q3)
          rw [w3, nC w2] at q4
          subst q4
          refine ⟨w1, cnt (ai 6) a, by rw [hw.1]; exact cnt_lt q1 q3, by rw [(hw.2.1 a q1 q3).1]; exact w3, by rw [(hw.2.1 a q1 q3).2]; exact mge a q2 q1⟩
        · rintro ⟨q0, j, q1, q2, q3⟩
          rw [hw.1] at q1
          obtain ⟨a, z1, z2, z3⟩ := cnt_at na q1
          rw [← z3, (hw.2.1 a z1 z2).1] at q2
          rw [← z3, (hw.2.1 a z1 z2).2] at q3
          refine ⟨a, z1, ?_, by rw [(ha.1 a z1).1]; exact z2, by rw [(ha.1 a z1).2.1, q2, nC (by omega)]⟩
          rcases Nat.lt_or_ge a m with z | z
          · have := mlt a z; omega
          · exact z
      unfold offM offZ
      by_cases q : i < p ∧ ∃ j, j < nd ∧ ai 10 j = nI i ∧ (s : Int) ≤ (ai 11 j).toInt
      · rw [if_pos q, if_pos (e.mpr q)]
      · rw [if_neg q, if_neg (fun z => q (e.mp z))]; exact ho i hi
    have hd' : Rd s ai bi := ⟨fun k h => hd.1 k (by omega), fun k h => hd.2 k (by omega)⟩
    have ha' : Ra p s m ai bi := by
      refine ⟨fun a h => ?_, fun a h => ha.2 a (by omega)⟩
      obtain ⟨q1, q2, q3, q4, q5, q6⟩ := ha.1 a (by omega)
      exact ⟨q1, q2, q3, q4, ⟨q5.1, mlt a h⟩, q6⟩
    have hw' : Rw m (cnt (ai 6) m) ai := ⟨rfl, fun a h h0 => hw.2.1 a (by omega) h0, fun j k h1 h2 e => hw.2.2.1 j k (by omega) (by omega) e, fun a h h0 => hw.2.2.2 a (by omega) h0⟩
    have hf' : Rf p (cnt (ai 6) m) ai bi := ⟨hf.1, hf.2.1, hf.2.2.1, hf.2.2.2.1, hf.2.2.2.2.1, fun x y hxy k h => hf.2.2.2.2.2 x y hxy k (by omega)⟩
    refine ⟨res, ?_⟩
    by_cases z : s = 0
    · rw [if_pos z, if_pos (Or.inl z)]
      exact Rl.i p nc s m (cnt (ai 6) m) nr no ⟨⟨n1, n2, n3, by omega, by omega, by omega, n7, n8⟩, ⟨c7, g0, c1, g1, rfl, rfl, rfl, rfl, rfl, c6, g6, c11, g7, rfl, c0, c0r⟩, hg, hk, hd', ha', hw', hf', Or.inl rfl, off, hr, hq⟩
    · rw [if_neg z, ← c5, (hd.1 (s - 1) (by omega)).1]
      have dl := hd.mono (show s - 1 ≤ ns - 1 by omega) (by omega)
      have d0 := (hd.1 (s - 1) (by omega)).2.1
      rcases he with he | he
      · rw [if_pos (Or.inr (by rw [i_le, he, show (-1 : Int32).toInt = -1 from rfl]; omega))]
        exact Rl.i p nc s m (cnt (ai 6) m) nr no ⟨⟨n1, n2, n3, by omega, by omega, by omega, n7, n8⟩, ⟨c7, g0, c1, g1, rfl, rfl, rfl, rfl, rfl, c6, g6, c11, g7, he, c0, c0r⟩, hg, hk, hd', ha', hw', hf', Or.inl he, off, hr, hq⟩
      · rw [if_neg (show ¬ (s = 0 ∨ ¬ ai 5 (s - 1) ≤ fi 5) by rw [i_le]; omega)]
        exact Rl.i p nc s m (cnt (ai 6) m) nr no ⟨⟨n1, n2, n3, by omega, by omega, by omega, n7, n8⟩, ⟨c7, g0, c1, g1, rfl, rfl, rfl, rfl, rfl, c6, g6, c11, g7, rfl, c0, c0r⟩, hg, hk, hd', ha', hw', hf', Or.inr ⟨by omega, show (ai 5 (s - 1)).toInt ≤ (fi 5).toInt by omega, he.2.2⟩, off, hr, hq⟩
  · exact Mo_redo_s g2 n4 g3 n5 (fun a h1 h0 => by
      rw [(ha.1 a h1).1] at h0
      rw [(ha.1 a h1).2.1]
      have := wP a h1 h0
      unfold isP at this ⊢
      omega) (fun s hs e => absurd (by rw [e]; exact isP_nI hs (by omega)) h) (fun _ => ⟨rfl, hR⟩)
