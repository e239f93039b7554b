section MATH
variable {G : zG} {d : Nat} {Q : Option zV → zHp → Prop} {h : zHp}
theorem sp_max {x y : Int} (hS : zSh h) (k : ∀ r, (x ≤ r ∧ y ≤ r ∧ (r = x ∨ r = y)) → Q (some (vI r)) h) : wpN G d M_J9_max_7cf53 0 (zar 0 [vI x, vI y]) [] h Q :=
  vc_J9_max_7cf53_0 x y h hS (Nat.zero_le _) ⟨fun c => k _ (by omega), fun c => k _ (by omega)⟩
theorem sp_min {x y : Int} (hS : zSh h) (k : ∀ r, (r ≤ x ∧ r ≤ y ∧ (r = x ∨ r = y)) → Q (some (vI r)) h) : wpN G d M_J9_min_7cf53 0 (zar 0 [vI x, vI y]) [] h Q :=
  vc_J9_min_7cf53_0 x y h hS (Nat.zero_le _) ⟨fun c => k _ (by omega), fun c => k _ (by omega)⟩
theorem sp_maxL {x y : Int} (hS : zSh h) (k : ∀ r, (x ≤ r ∧ y ≤ r ∧ (r = x ∨ r = y)) → Q (some (vL r)) h) : wpN G d M_J9_max_f86c9 0 (zar 0 [vL x, vL y]) [] h Q :=
  vc_J9_max_f86c9_0 x y h hS (Nat.zero_le _) ⟨fun c => k _ (by omega), fun c => k _ (by omega)⟩
theorem sp_minL {x y : Int} (hS : zSh h) (k : ∀ r, (r ≤ x ∧ r ≤ y ∧ (r = x ∨ r = y)) → Q (some (vL r)) h) : wpN G d M_J9_min_f86c9 0 (zar 0 [vL x, vL y]) [] h Q :=
  vc_J9_min_f86c9_0 x y h hS (Nat.zero_le _) ⟨fun c => k _ (by omega), fun c => k _ (by omega)⟩
end MATH
section DOC2
variable {G : zG} {d : Nat} {Q : Option zV → zHp → Prop} {a : Nat} {h : zHp}
theorem cpI_at {h : zHp} {a0 sp a dp k j : Nat} : gI (cpI h a0 sp a dp k) a j = if dp ≤ j ∧ j < dp + k then gI h a0 (sp + (j - dp)) else gI h a j := by
  show (if a = a ∧ dp ≤ j ∧ j < dp + k then h.1 a0 (sp + (j - dp)) else h.1 a j) = _
  by_cases q : dp ≤ j ∧ j < dp + k
  · rw [if_pos ⟨rfl, q⟩, if_pos q]; rfl
  · rw [if_neg (fun z => q z.2), if_neg q]; rfl
theorem sp_X2_openGap {p n : Int} (hd : 2 ≤ d) (hT : zT 369 a = (102, 3)) (hS : zSh h) (ha : dOk h a) (g0 : 0 ≤ p) (g1 : p ≤ gI h (a + 1) 1) (g2 : 0 ≤ n) (g3 : gI h (a + 1) 1 + n ≤ 200)
    (k : ∀ h', zSh h' → zFr (dIn a) h h' → gI h' (a + 1) 1 = gI h (a + 1) 1 + n → (∀ j : Nat, (j : Int) < p → gI h' (a + 2) j = gI h (a + 2) j) → (∀ j : Nat, p + n ≤ j → (j : Int) < gI h (a + 1) 1 + n → gI h' (a + 2) j = gI h (a + 2) (j - n.toNat)) → (∀ j : Nat, j < 200 → 0 ≤ gI h' (a + 2) j ∧ gI h' (a + 2) j ≤ 255) → (∀ o : Nat, o < 4 → gI h' (a + 3) o = gI h (a + 3) o ∧ gI h' (a + 4) o = if p < gI h (a + 4) o then gI h (a + 4) o + n else gI h (a + 4) o) → Q none h') : wpN G d M_X2_openGap 0 (zar 0 [vR a, vI p, vI n]) [] h Q := by
  have hL := zdocL hT
  have hB := ha.1
  have loop : ∀ (m j : Nat) (g : zHp), j + m = 4 → zFr (fun b => b = a + 4) (rOpen h (a + 1) p n) g → (∀ o : Nat, o < j → gI g (a + 4) o = if p < gI h (a + 4) o then gI h (a + 4) o + n else gI h (a + 4) o) → (∀ o : Nat, j ≤ o → gI g (a + 4) o = gI h (a + 4) o) → wpN G d M_X2_openGap 11 [(0, vR a), (1, vI p), (2, vI n), (3, vI (j : Int))] [] g Q := by
    intro m
    induction m with
    | zero =>
      intro j g hj f e1 e2
      have ej : j = 4 := by omega
      rw [ej] at e1
      have hSg : zSh g := f.Sh hS
      have f0 : zFr (dIn a) h (rOpen h (a + 1) p n) := (zFr.cpI (P := dIn a) ⟨by omega, by omega⟩).tr (zFr.sI ⟨by omega, by omega⟩)
      have by2 : ∀ i : Nat, gI g (a + 2) i = if (p + n).toNat ≤ i ∧ i < (p + n).toNat + (gI h (a + 1) 1 - p).toNat then gI h (a + 2) (p.toNat + (i - (p + n).toNat)) else gI h (a + 2) i := by
        intro i
        rw [f.1 _ _ (by omega)]
        unfold rOpen
        rw [gI_sI, if_neg (by omega), show a + 1 + 1 = a + 2 from rfl, cpI_at]
      refine vc_X2_openGap_11 a hT p n j g hSg hd (fun _ _ _ _ _ => False) (fun _ _ _ _ _ q => q.elim) ⟨fun c => k g hSg (f0.tr (f.mono (fun b hb => ⟨by omega, by omega⟩))) ?_ ?_ ?_ ?_ ?_, fun c => by omega⟩
      · rw [f.1 _ _ (by omega)]; unfold rOpen; rw [gI_sI, if_pos ⟨rfl, rfl⟩]
      · intro i hi; rw [by2, if_neg (by omega)]
      · intro i hi1 hi2; rw [by2, if_pos ⟨by omega, by omega⟩]; congr 1; omega
      · intro i hi
        rw [by2]
        split
        · rename_i q; exact ha.2.1 _ (by omega)
        · exact ha.2.1 _ hi
      · intro o ho
        refine ⟨?_, e1 o ho⟩
        rw [f.1 _ _ (by omega)]; unfold rOpen; rw [gI_sI, if_neg (by omega), cpI_ne (by omega)]
    | succ m ih =>
      intro j g hj f e1 e2
      have hSg : zSh g := f.Sh hS
      have ov := ha.2.2 j (by omega)
      have e2j : gI g (a + 4) (j : Int).toNat = gI h (a + 4) j := by rw [show (j : Int).toNat = j by omega]; exact e2 j (Nat.le_refl j)
      refine vc_X2_openGap_11 a hT p n j g hSg hd (fun y0 y1 y2 y3 h' => y0 = a ∧ y1 = p ∧ y2 = n ∧ y3 = ((j + 1 : Nat) : Int) ∧ h' = if p < gI h (a + 4) j then sI g (a + 4) j (gI h (a + 4) j + n) else g) ?_ ⟨fun c => by omega, fun c => ⟨⟨by omega, by omega⟩, fun c1 => ⟨by omega, fun x ex _ => ⟨rfl, rfl, rfl, by omega, by rw [if_neg (by omega)]⟩⟩, fun c1 => ⟨⟨by omega, by omega⟩, by omega, ⟨by omega, by omega⟩, fun h5 e5 => ⟨by omega, fun x ex _ => ⟨rfl, rfl, rfl, by omega, ?_⟩⟩⟩⟩⟩
      · rintro _ _ _ _ _ ⟨q0, q1, q2, q3, q4⟩
        rw [q0, q1, q2, q3, q4]
        by_cases hc : p < gI h (a + 4) j
        · rw [if_pos hc]
          refine ih (j + 1) _ (by omega) (f.tr (zFr.sI rfl)) ?_ ?_
          · intro o ho
            by_cases eo : o = j
            · rw [eo, gI_sI, if_pos ⟨rfl, rfl⟩, if_pos hc]
            · rw [gI_sI, if_neg (by omega)]; exact e1 o (by omega)
          · intro o ho; rw [gI_sI, if_neg (by omega)]; exact e2 o (by omega)
        · rw [if_neg hc]
          refine ih (j + 1) _ (by omega) f ?_ ?_
          · intro o ho
            by_cases eo : o = j
            · rw [eo, if_neg hc]; exact e2 j (Nat.le_refl j)
            · exact e1 o (by omega)
          · intro o ho; exact e2 o (by omega)
      · rw [if_pos (by omega), e5, e2j, show (j : Int).toNat = j by omega]
  refine vc_X2_openGap_0 a hT p n h hS hd (fun y0 y1 y2 y3 h' => y0 = a ∧ y1 = p ∧ y2 = n ∧ y3 = 0 ∧ h' = rOpen h (a + 1) p n) ?_ (sp_X0_openGap (by omega) (zdoc0 hT) hS ⟨hB.1, by rw [hL]; exact hB.2⟩ g0 g1 g2 (by rw [hL]; exact g3) (qV_i ⟨hS, fun _ => ⟨rfl, rfl, rfl, rfl, rfl⟩⟩))
  rintro _ _ _ _ _ ⟨q0, q1, q2, q3, q4⟩
  rw [q0, q1, q2, q3, q4]
  refine loop 4 0 _ rfl zFr.rf (fun o ho => by omega) (fun o _ => ?_)
  unfold rOpen
  rw [gI_sI, if_neg (by omega), cpI_ne (by omega)]
theorem sp_X2_closeGap {p n : Int} (hd : 2 ≤ d) (hT : zT 369 a = (102, 3)) (hS : zSh h) (ha : dOk h a) (g0 : 0 ≤ p) (g2 : 0 ≤ n) (g3 : p + n ≤ gI h (a + 1) 1)
    (k : ∀ h', zSh h' → zFr (dIn a) h h' → gI h' (a + 1) 1 = gI h (a + 1) 1 - n → (∀ j : Nat, (j : Int) < p → gI h' (a + 2) j = gI h (a + 2) j) → (∀ j : Nat, p ≤ j → (j : Int) < gI h (a + 1) 1 - n → gI h' (a + 2) j = gI h (a + 2) (j + n.toNat)) → (∀ j : Nat, j < 200 → 0 ≤ gI h' (a + 2) j ∧ gI h' (a + 2) j ≤ 255) → (∀ o : Nat, o < 4 → gI h' (a + 3) o = gI h (a + 3) o ∧ gI h' (a + 4) o = if p < gI h (a + 4) o then (if gI h (a + 4) o - n < p then p else gI h (a + 4) o - n) else gI h (a + 4) o) → Q none h') : wpN G d M_X2_closeGap 0 (zar 0 [vR a, vI p, vI n]) [] h Q := by
  have hL := zdocL hT
  have hB := ha.1
  have loop : ∀ (m j : Nat) (g : zHp), j + m = 4 → zFr (fun b => b = a + 4) (rClose h (a + 1) p n) g → (∀ o : Nat, o < j → gI g (a + 4) o = if p < gI h (a + 4) o then (if gI h (a + 4) o - n < p then p else gI h (a + 4) o - n) else gI h (a + 4) o) → (∀ o : Nat, j ≤ o → gI g (a + 4) o = gI h (a + 4) o) → wpN G d M_X2_closeGap 11 [(0, vR a), (1, vI p), (2, vI n), (3, vI (j : Int))] [] g Q := by
    intro m
    induction m with
    | zero =>
      intro j g hj f e1 e2
      have ej : j = 4 := by omega
      rw [ej] at e1
      have hSg : zSh g := f.Sh hS
      have f0 : zFr (dIn a) h (rClose h (a + 1) p n) := (zFr.cpI (P := dIn a) ⟨by omega, by omega⟩).tr (zFr.sI ⟨by omega, by omega⟩)
      have by2 : ∀ i : Nat, gI g (a + 2) i = if p.toNat ≤ i ∧ i < p.toNat + (gI h (a + 1) 1 - p - n).toNat then gI h (a + 2) ((p + n).toNat + (i - p.toNat)) else gI h (a + 2) i := by
        intro i
        rw [f.1 _ _ (by omega)]
        unfold rClose
        rw [gI_sI, if_neg (by omega), show a + 1 + 1 = a + 2 from rfl, cpI_at]
      refine vc_X2_closeGap_11 a hT p n j g hSg hd (fun _ _ _ _ _ => False) (fun _ _ _ _ _ q => q.elim) ⟨fun c => k g hSg (f0.tr (f.mono (fun b hb => ⟨by omega, by omega⟩))) ?_ ?_ ?_ ?_ ?_, fun c => by omega⟩
      · rw [f.1 _ _ (by omega)]; unfold rClose; rw [gI_sI, if_pos ⟨rfl, rfl⟩]
      · intro i hi; rw [by2, if_neg (by omega)]
      · intro i hi1 hi2; rw [by2, if_pos ⟨by omega, by omega⟩]; congr 1; omega
      · intro i hi
        rw [by2]
        split
        · rename_i q; exact ha.2.1 _ (by omega)
        · exact ha.2.1 _ hi
      · intro o ho
        refine ⟨?_, e1 o ho⟩
        rw [f.1 _ _ (by omega)]; unfold rClose; rw [gI_sI, if_neg (by omega), cpI_ne (by omega)]
    | succ m ih =>
      intro j g hj f e1 e2
      have hSg : zSh g := f.Sh hS
      have ov := ha.2.2 j (by omega)
      have e2j : gI g (a + 4) (j : Int).toNat = gI h (a + 4) j := by rw [show (j : Int).toNat = j by omega]; exact e2 j (Nat.le_refl j)
      refine vc_X2_closeGap_11 a hT p n j g hSg hd (fun y0 y1 y2 y3 h' => y0 = a ∧ y1 = p ∧ y2 = n ∧ y3 = ((j + 1 : Nat) : Int) ∧ h' = if p < gI h (a + 4) j then sI g (a + 4) j (if gI h (a + 4) j - n < p then p else gI h (a + 4) j - n) else g) ?_ ⟨fun c => by omega, fun c => ⟨⟨by omega, by omega⟩, fun c1 => ⟨by omega, fun x ex _ => ⟨rfl, rfl, rfl, by omega, by rw [if_neg (by omega)]⟩⟩, fun c1 => ⟨⟨by omega, by omega⟩, by omega, sp_max hSg (fun r hr => qI_i ⟨hSg, ⟨by omega, by omega⟩, fun h9 e9 => ⟨by omega, fun x ex _ => ⟨rfl, rfl, rfl, by omega, ?_⟩⟩⟩)⟩⟩⟩
      · rintro _ _ _ _ _ ⟨q0, q1, q2, q3, q4⟩
        rw [q0, q1, q2, q3, q4]
        by_cases hc : p < gI h (a + 4) j
        · rw [if_pos hc]
          refine ih (j + 1) _ (by omega) (f.tr (zFr.sI rfl)) ?_ ?_
          · intro o ho
            by_cases eo : o = j
            · rw [eo, gI_sI, if_pos ⟨rfl, rfl⟩, if_pos hc]
            · rw [gI_sI, if_neg (by omega)]; exact e1 o (by omega)
          · intro o ho; rw [gI_sI, if_neg (by omega)]; exact e2 o (by omega)
        · rw [if_neg hc]
          refine ih (j + 1) _ (by omega) f ?_ ?_
          · intro o ho
            by_cases eo : o = j
            · rw [eo, if_neg hc]; exact e2 j (Nat.le_refl j)
            · exact e1 o (by omega)
          · intro o ho; exact e2 o (by omega)
      · rw [if_pos (by omega), e9, show (j : Int).toNat = j by omega]
        congr 1
        split <;> omega
  refine vc_X2_closeGap_0 a hT p n h hS hd (fun y0 y1 y2 y3 h' => y0 = a ∧ y1 = p ∧ y2 = n ∧ y3 = 0 ∧ h' = rClose h (a + 1) p n) ?_ (sp_X0_closeGap (by omega) (zdoc0 hT) hS ⟨hB.1, by rw [hL]; exact hB.2⟩ g0 g2 g3 (qV_i ⟨hS, fun _ => ⟨rfl, rfl, rfl, rfl, rfl⟩⟩))
  rintro _ _ _ _ _ ⟨q0, q1, q2, q3, q4⟩
  rw [q0, q1, q2, q3, q4]
  refine loop 4 0 _ rfl zFr.rf (fun o ho => by omega) (fun o _ => ?_)
  unfold rClose
  rw [gI_sI, if_neg (by omega), cpI_ne (by omega)]
end DOC2
/-! the history -/
/-- the row of states: thirteen documents, apart from each other and from the live one -/
def hOk (h : zHp) : Prop := (∀ i : Nat, i < 13 → zT 369 (gR h 14 i) = (102, 3) ∧ gR h 14 i ≠ 8 ∧ dOk h (gR h 14 i)) ∧ (∀ i j : Nat, i < 13 → j < 13 → gR h 14 i = gR h 14 j → i = j) ∧ dOk h 8 ∧ 0 ≤ gI h 13 2 ∧ gI h 13 2 ≤ gI h 13 3 ∧ gI h 13 3 ≤ 12
def hPast (h : zHp) : List (List Int × List (Int × Int)) := (List.range (gI h 13 2).toNat).map (fun i => dv h (gR h 14 i))
def hFut (h : zHp) : List (List Int × List (Int × Int)) := (List.range (gI h 13 3 - gI h 13 2).toNat).map (fun i => dv h (gR h 14 ((gI h 13 2).toNat + 1 + i)))
/-- the cells of the history and of the documents -/
def hIn : Nat → Prop := fun b => 9 ≤ b ∧ b ≤ 79
