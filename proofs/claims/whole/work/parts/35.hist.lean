/-- the mark of the present moved within the row -/
theorem hist_now {h : zHp} {z : Int} (ho : hOk h) (z0 : 0 ≤ z) (z1 : z ≤ gI h 13 3) : hOk (sI h 13 2 z) ∧ dv (sI h 13 2 z) 8 = dv h 8 ∧ (∀ i, i < 13 → dv (sI h 13 2 z) (gR (sI h 13 2 z) 14 i) = dv h (gR h 14 i)) ∧ gI (sI h 13 2 z) 13 2 = z ∧ gI (sI h 13 2 z) 13 3 = gI h 13 3 ∧ zF3 hI8 h (sI h 13 2 z) := by
  obtain ⟨o1, o2, o3, o4, o5, o6⟩ := ho
  have F : zF3 h34 h (sI h 13 2 z) := zF3.sI (Or.inl rfl)
  have n2 : gI (sI h 13 2 z) 13 2 = z := by rw [gI_sI, if_pos ⟨rfl, rfl⟩]
  have n3 : gI (sI h 13 2 z) 13 3 = gI h 13 3 := by rw [gI_sI, if_neg (by omega)]
  refine ⟨⟨fun i hi => ⟨(o1 i hi).1, (o1 i hi).2.1, dOk_f3 F (fun b hb => doc_34 (o1 i hi).1 hb) (o1 i hi).2.2⟩, o2, dOk_f3 F (fun b hb => doc_34 zT_8 hb) o3, by omega, by omega, by omega⟩, dv_f3 8 F (fun b hb => doc_34 zT_8 hb), fun i hi => dv_f3 _ F (fun b hb => doc_34 (o1 i hi).1 hb), n2, n3, F.mono (fun b hb => by rcases hb with rfl | rfl <;> exact ⟨by omega, by omega⟩)⟩
section HIST2
variable {G : zG} {d : Nat} {Q : Option zV → zHp → Prop} {h : zHp}
theorem hPast_get {h : zHp} {i : Nat} (hi : (i : Int) < gI h 13 2) : (hPast h)[i]? = some (dv h (gR h 14 i)) := by
  rw [hPast, List.getElem?_map, List.getElem?_range (by omega)]
  rfl
theorem hFut_len (h : zHp) : (hFut h).length = (gI h 13 3 - gI h 13 2).toNat := by simp [hFut]
theorem hFut_get {h : zHp} {i : Nat} (hi : (i : Int) < gI h 13 3 - gI h 13 2) : (hFut h)[i]? = some (dv h (gR h 14 ((gI h 13 2).toNat + 1 + i))) := by
  rw [hFut, List.getElem?_map, List.getElem?_range (by omega)]
  rfl
theorem sp_X4_back (hd : 4 ≤ d) (hS : zSh h) (ho : hOk h) (k0 : gI h 13 2 = 0 → Q (some (vI 0)) h)
    (k : ∀ (h' : zHp) (x : List Int × List (Int × Int)), zSh h' → zF3 hI8 h h' → hOk h' → hPast h = hPast h' ++ [x] → dv h' 8 = x → hFut h' = dv h 8 :: hFut h → Q (some (vI 1)) h') : wpN G d M_X4_back 0 (zar 0 [vR 13]) [] h Q := by
  have oo := ho
  obtain ⟨o1, o2, o3, o4, o5, o6⟩ := ho
  refine vc_X4_back_0 h hS hd ⟨fun c => sp_X4_keep (by omega) hS oo (fun h3 s3 F3 O3 P3 U3 V3 K3 n2 n3 => qV_i ⟨s3, by omega, fun h6 e6 => ?_⟩), fun c => k0 (by omega)⟩
  obtain ⟨w1, w2, w3, w4, w5, w6⟩ := hist_now (z := gI h3 13 2 - 1) O3 (by omega) (by omega)
  rw [← e6] at w1 w2 w3 w4 w5 w6
  have s6 : zSh h6 := by rw [e6]; exact s3
  refine sp_X4_takeBack (by omega) s6 w1 (fun h9 s9 F9 O9 P9 U9 V9 K9 m2 m3 vv => qV_i ⟨s9, k h9 (hKept h6) s9 (F3.tr (w6.tr F9)) O9 ?_ V9 ?_⟩)
  · rw [P9, ← P3]
    apply List.ext_getElem?
    intro i
    have l3 := hPast_len h3
    have l6 := hPast_len h6
    by_cases q : (i : Int) < gI h 13 2 - 1
    · rw [List.getElem?_append_left (by omega), hPast_get (by omega), hPast_get (by omega), w3 i (by omega)]
    · by_cases q2 : (i : Int) = gI h 13 2 - 1
      · rw [List.getElem?_append_right (by omega), l6, show i - (gI h6 13 2).toNat = 0 by omega, hPast_get (by omega)]
        show _ = some (hKept h6)
        unfold hKept
        rw [w4, show (gI h3 13 2 - 1).toNat = i by omega, w3 i (by omega)]
      · rw [List.getElem?_eq_none (by omega), List.getElem?_eq_none (by simp; omega)]
  · rw [U9, ← U3]
    apply List.ext_getElem?
    intro i
    have l3 := hFut_len h3
    have l6 := hFut_len h6
    rcases i with _ | i
    · rw [hFut_get (by omega), w3 _ (by omega), w4]
      show _ = some (dv h 8)
      rw [← K3]
      unfold hKept
      rw [show (gI h3 13 2 - 1).toNat + 1 + 0 = (gI h3 13 2).toNat by omega]
    · rw [List.getElem?_cons_succ]
      by_cases q : (i : Int) < gI h 13 3 - gI h 13 2
      · rw [hFut_get (by omega), hFut_get (by omega), w4, w3 _ (by omega), show (gI h3 13 2 - 1).toNat + 1 + (i + 1) = (gI h3 13 2).toNat + 1 + i by omega]
      · rw [List.getElem?_eq_none (by omega), List.getElem?_eq_none (by omega)]
theorem sp_X4_forward (hd : 4 ≤ d) (hS : zSh h) (ho : hOk h) (k0 : hFut h = [] → Q (some (vI 0)) h)
    (k : ∀ (h' : zHp) (x : List Int × List (Int × Int)), zSh h' → zF3 hI8 h h' → hOk h' → hFut h = x :: hFut h' → dv h' 8 = x → hPast h' = hPast h ++ [dv h 8] → Q (some (vI 1)) h') : wpN G d M_X4_forward 0 (zar 0 [vR 13]) [] h Q := by
  have oo := ho
  obtain ⟨o1, o2, o3, o4, o5, o6⟩ := ho
  refine vc_X4_forward_0 h hS hd ⟨fun c => sp_X4_keep (by omega) hS oo (fun h3 s3 F3 O3 P3 U3 V3 K3 n2 n3 => qV_i ⟨s3, by omega, fun h6 e6 => ?_⟩), fun c => k0 (by unfold hFut; rw [show gI h 13 3 - gI h 13 2 = 0 by omega]; rfl)⟩
  obtain ⟨w1, w2, w3, w4, w5, w6⟩ := hist_now (z := gI h3 13 2 + 1) O3 (by omega) (by omega)
  rw [← e6] at w1 w2 w3 w4 w5 w6
  have s6 : zSh h6 := by rw [e6]; exact s3
  refine sp_X4_takeBack (by omega) s6 w1 (fun h9 s9 F9 O9 P9 U9 V9 K9 m2 m3 vv => qV_i ⟨s9, k h9 (hKept h6) s9 (F3.tr (w6.tr F9)) O9 ?_ V9 ?_⟩)
  · rw [U9, ← U3]
    apply List.ext_getElem?
    intro i
    have l3 := hFut_len h3
    have l6 := hFut_len h6
    rcases i with _ | i
    · rw [hFut_get (by omega)]
      show _ = some (hKept h6)
      unfold hKept
      rw [w4, w3 _ (by omega), show (gI h3 13 2 + 1).toNat = (gI h3 13 2).toNat + 1 + 0 by omega]
    · rw [List.getElem?_cons_succ]
      by_cases q : (i : Int) + 1 < gI h 13 3 - gI h 13 2
      · rw [hFut_get (by omega), hFut_get (by omega), w4, w3 _ (by omega), show (gI h3 13 2 + 1).toNat + 1 + i = (gI h3 13 2).toNat + 1 + (i + 1) by omega]
      · rw [List.getElem?_eq_none (by omega), List.getElem?_eq_none (by omega)]
  · rw [P9, ← P3, ← K3]
    apply List.ext_getElem?
    intro i
    have l3 := hPast_len h3
    have l6 := hPast_len h6
    by_cases q : (i : Int) < gI h 13 2
    · rw [List.getElem?_append_left (by omega), hPast_get (by omega), hPast_get (by omega), w3 i (by omega)]
    · by_cases q2 : (i : Int) = gI h 13 2
      · rw [List.getElem?_append_right (by omega), l3, show i - (gI h3 13 2).toNat = 0 by omega, hPast_get (by omega), w3 i (by omega)]
        show _ = some (hKept h3)
        unfold hKept
        rw [show (gI h3 13 2).toNat = i by omega]
      · rw [List.getElem?_eq_none (by omega), List.getElem?_eq_none (by simp; omega)]
end HIST2
/-! fields -/
section FLD
variable {G : zG} {d : Nat} {Q : Option zV → zHp → Prop} {f : Nat} {h : zHp}
theorem sp_X3_isCheck (hT : zT 369 f = (103, 8)) (hS : zSh h) (k : ∀ r, r = (if 2 ≤ gI h f 2 then 1 else 0) → Q (some (vI r)) h) : wpN G d M_X3_isCheck 0 (zar 0 [vR f]) [] h Q :=
  vc_X3_isCheck_0 f hT h hS (Nat.zero_le _) ⟨fun c => k _ (by rw [if_neg (by omega)]), fun c => k _ (by rw [if_pos c])⟩
theorem sp_X3_contains {p : Int} (hT : zT 369 f = (103, 8)) (hS : zSh h) (hr : -2147483648 ≤ gI h f 0 + gI h f 1 ∧ gI h f 0 + gI h f 1 ≤ 2147483647) (k : ∀ r, r = (if gI h f 0 ≤ p ∧ p < gI h f 0 + gI h f 1 then 1 else 0) → Q (some (vI r)) h) : wpN G d M_X3_contains 0 (zar 0 [vR f, vI p]) [] h Q :=
  vc_X3_contains_0 f hT p h hS (Nat.zero_le _) ⟨fun c => k _ (by rw [if_neg (by omega)]), fun c => ⟨hr, fun c2 => k _ (by rw [if_neg (by omega)]), fun c2 => k _ (by rw [if_pos ⟨c, c2⟩])⟩⟩
/-- which numbers a field takes -/
def fTakes (sz kind v : Int) : Prop := if kind = 1 then -(fSpan sz / 2) ≤ v ∧ v < fSpan sz / 2 else 0 ≤ v ∧ v < fSpan sz
theorem zshl_span {sz : Int} (h : fSz sz) : zshl 1 (8 * sz) = fSpan sz := by
  unfold fSpan
  rcases h with e | e | e <;> rw [e]
  · exact zshl_8
  · exact zshl_16
  · exact zshl_32
theorem fSpan_v {sz : Int} (h : fSz sz) : fSpan sz = 256 ∨ fSpan sz = 65536 ∨ fSpan sz = 4294967296 := by
  unfold fSpan
  rcases h with e | e | e <;> rw [e] <;> simp
theorem sp_X3_takes {v : Int} (hT : zT 369 f = (103, 8)) (hS : zSh h) (hs : fSz (gI h f 1)) (k1 : fTakes (gI h f 1) (gI h f 2) v → Q (some (vI 1)) h) (k0 : ¬ fTakes (gI h f 1) (gI h f 2) v → Q (some (vI 0)) h) : wpN G d M_X3_takes 0 (zar 0 [vR f, vL v]) [] h Q := by
  have e := zshl_span hs
  have sv := fSpan_v hs
  have b8 : -2147483648 ≤ 8 * gI h f 1 ∧ 8 * gI h f 1 ≤ 2147483647 := by rcases hs with q | q | q <;> omega
  have hd2 : (-fSpan (gI h f 1)).tdiv 2 = -(fSpan (gI h f 1) / 2) := by rw [Int.neg_tdiv, Int.tdiv_eq_ediv_of_nonneg (by omega)]
  unfold fTakes at k1 k0
  refine vc_X3_takes_0 f hT v h hS (Nat.zero_le _) ⟨b8, fun x1 e1 => ⟨fun c => ?_, fun c => ?_⟩⟩
  · rw [e] at e1
    rw [if_neg c] at k1 k0
    exact ⟨fun c1 => k0 (by omega), fun c1 => ⟨by omega, fun c2 => k0 (by omega), fun c2 => k1 (by omega)⟩⟩
  · rw [e] at e1
    rw [if_pos c] at k1 k0
    refine ⟨by omega, fun x6 e6 => ?_⟩
    rw [e1, hd2] at e6
    exact ⟨fun c1 => k0 (by omega), fun c1 => ⟨by omega, fun c2 => k0 (by omega), fun c2 => k1 (by omega)⟩⟩
theorem sp_X3_pathName {l : Int} (hT : zT 369 f = (103, 8)) (hS : zSh h) (hn : gI h f 6 ≤ 4) (k : ∀ r, r = (if 0 ≤ l ∧ l < gI h f 6 then gI h (f + 1) l.toNat else -1009) → Q (some (vI r)) h) : wpN G d M_X3_pathName 0 (zar 0 [vR f, vI l]) [] h Q :=
  vc_X3_pathName_0 f hT l h hS (Nat.zero_le _) ⟨fun c => k _ (by rw [if_neg (by omega)]), fun c => ⟨fun c1 => k _ (by rw [if_neg (by omega)]), fun c1 => ⟨fun c2 => k _ (by omega), fun c2 => ⟨⟨by omega, by omega⟩, k _ (by rw [if_pos ⟨c, c1⟩])⟩⟩⟩⟩
/-- the properties of a field -/
def fProp (h : zHp) (f : Nat) (w : Int) : Int := if w = 0 then gI h f 0 else if w = 1 then gI h f 1 else if w = 2 then gI h f 2 else if w = 3 then gI h f 3 else if w = 4 then gI h f 4 else if w = 5 then gI h f 5 else gI h f 6
theorem sp_X3_property {w : Int} (hT : zT 369 f = (103, 8)) (hS : zSh h) (hl : gI h f 3 = 0 ∨ gI h f 3 = 1) (k : ∀ r, r = fProp h f w → Q (some (vI r)) h) : wpN G d M_X3_property 0 (zar 0 [vR f, vI w]) [] h Q := by
  unfold fProp at k
  refine vc_X3_property_0 f hT w h hS (Nat.zero_le _) ⟨fun c => k _ ?_, fun c => k _ ?_, fun c => k _ ?_, fun c => k _ ?_, fun c => ⟨fun c2 => k _ ?_, fun c2 => k _ ?_⟩, fun c => k _ ?_, fun c => k _ ?_⟩
  · rw [if_neg (by omega), if_neg (by omega), if_neg (by omega), if_neg (by omega), if_neg (by omega), if_neg (by omega)]
  · rw [if_pos (by omega)]
  · rw [if_neg (by omega), if_pos (by omega)]
  · rw [if_neg (by omega), if_neg (by omega), if_pos (by omega)]
  · rw [if_neg (by omega), if_neg (by omega), if_neg (by omega), if_pos (by omega)]; omega
  · rw [if_neg (by omega), if_neg (by omega), if_neg (by omega), if_pos (by omega)]; omega
  · rw [if_neg (by omega), if_neg (by omega), if_neg (by omega), if_neg (by omega), if_pos (by omega)]
  · rw [if_neg (by omega), if_neg (by omega), if_neg (by omega), if_neg (by omega), if_neg (by omega), if_pos (by omega)]
end FLD
