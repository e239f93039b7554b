/-! the model's live document -/
def mHas (h : zHp) (o : Int) : Int := if 0 ≤ o ∧ o ≤ 3 ∧ gI h 344 (201 + 3 * o).toNat = 1 then 1 else 0
section MD
variable {G : zG} {d : Nat} {Q : Option zV → zHp → Prop} {h : zHp}
theorem sp_isPresent {o : Int} (hd : 1 ≤ d) (hS : zSh h) (k : ∀ r, r = mHas h o → Q (some (vI r)) h) : wpN G d M_X11_isPresent 0 (zar 0 [vR 343, vI o]) [] h Q := by
  unfold mHas at k
  refine vc_X11_isPresent_0 o h hS hd (sp_in hS (fun r er => qI_i ⟨hS, fun c => k _ ?_, fun c => ⟨by omega, by omega, by omega, fun c1 => k _ ?_, fun c1 => k _ ?_⟩⟩))
  · rw [if_neg (by omega)]
  · rw [if_neg (fun q => c1 q.2.2)]
  · rw [if_pos ⟨by omega, by omega, c1⟩]
theorem sp_templateOf {o : Nat} (hS : zSh h) (ho : o < 4) (k : Q (some (vI (gI h 344 (202 + 3 * o)))) h) : wpN G d M_X11_templateOf 0 (zar 0 [vR 343, vI (o : Int)]) [] h Q :=
  vc_X11_templateOf_0 o h hS (Nat.zero_le _) ⟨by omega, by omega, by omega, by rw [show (202 + 3 * (o : Int)).toNat = 202 + 3 * o by omega]; exact k⟩
theorem sp_offsetOf {o : Nat} (hS : zSh h) (ho : o < 4) (k : Q (some (vI (gI h 344 (203 + 3 * o)))) h) : wpN G d M_X11_offsetOf 0 (zar 0 [vR 343, vI (o : Int)]) [] h Q :=
  vc_X11_offsetOf_0 o h hS (Nat.zero_le _) ⟨by omega, by omega, by omega, by rw [show (203 + 3 * (o : Int)).toNat = 203 + 3 * o by omega]; exact k⟩
theorem sp_moves {o : Nat} {z : Int} (hS : zSh h) (ho : o < 4) (k : ∀ h', h' = sI h 344 (203 + 3 * o) z → Q none h') : wpN G d M_X11_moves 0 (zar 0 [vR 343, vI (o : Int), vI z]) [] h Q :=
  vc_X11_moves_0 o z h hS (Nat.zero_le _) ⟨by omega, by omega, by omega, by rw [show (203 + 3 * (o : Int)).toNat = 203 + 3 * o by omega]; exact k⟩
theorem mHas_n {o : Nat} (ho : o < 4) : mHas h (o : Int) = if gI h 344 (201 + 3 * o) = 1 then 1 else 0 := by
  unfold mHas
  rw [show (201 + 3 * (o : Int)).toNat = 201 + 3 * o by omega]
  by_cases q : gI h 344 (201 + 3 * o) = 1
  · rw [if_pos ⟨by omega, by omega, q⟩, if_pos q]
  · rw [if_neg (fun w => q w.2.2), if_neg q]
/-- how many overlays of a value are present -/
def ovCnt (ov : List (Int × Int)) : Int := cntB (fun o => decide ((ov.getD o (-1, 0)).1 ≠ -1)) 4
theorem mOv_at {a b o : Nat} (ho : o < 4) : (mOv h a b).getD o (-1, 0) = if gI h a (b + 201 + 3 * o) = 1 then (gI h a (b + 202 + 3 * o), gI h a (b + 203 + 3 * o)) else (-1, 0) := by
  unfold mOv
  rw [List.getD_eq_getElem?_getD, List.getElem?_map, List.getElem?_range ho]
  rfl
theorem mOv_has {a b o : Nat} (h8 : mdOk h a b) (ho : o < 4) : ((mOv h a b).getD o (-1, 0)).1 ≠ -1 ↔ gI h a (b + 201 + 3 * o) = 1 := by
  rw [mOv_at ho]
  by_cases q : gI h a (b + 201 + 3 * o) = 1
  · have := h8.2.2 o ho q
    rw [if_pos q]
    exact ⟨fun _ => q, fun _ => by show gI h a (b + 202 + 3 * o) ≠ -1; omega⟩
  · rw [if_neg q]
    exact ⟨fun w => absurd rfl w, fun w => absurd w q⟩
theorem sp_present (hd : 2 ≤ d) (hS : zSh h) (h8 : mdOk h 344 0) (k : Q (some (vI (ovCnt (mv h 344 0).2))) h) : wpN G d M_X11_present 0 (zar 0 [vR 343]) [] h Q := by
  have loop : ∀ (n o : Nat), o + n = 4 → wpN G d M_X11_present 4 [(0, vR 343), (1, vI (cntB (fun o => decide (((mOv h 344 0).getD o (-1, 0)).1 ≠ -1)) o)), (2, vI (o : Int))] [] h Q := by
    intro n
    induction n with
    | zero =>
      intro o ho
      have eo : o = 4 := by omega
      refine vc_X11_present_4 _ o h hS hd (fun _ _ _ => False) (fun _ _ _ q => q.elim) ⟨fun c => by rw [eo]; exact k, fun c => by omega⟩
    | succ n ih =>
      intro o ho
      have bd := cntB_bd (fun o => decide (((mOv h 344 0).getD o (-1, 0)).1 ≠ -1)) o
      have hh := mOv_has h8 (o := o) (by omega)
      rw [show 0 + 201 + 3 * o = 201 + 3 * o by omega] at hh
      refine vc_X11_present_4 _ o h hS hd (fun y1 y2 g => y1 = cntB (fun o => decide (((mOv h 344 0).getD o (-1, 0)).1 ≠ -1)) (o + 1) ∧ y2 = ((o + 1 : Nat) : Int) ∧ g = h) ?_ ⟨fun c => by omega, fun c => sp_isPresent (by omega) hS (fun r er => qI_i ⟨hS, fun z => ⟨by omega, fun x ex => ⟨by omega, fun x2 ex2 _ => ⟨?_, by omega, rfl⟩⟩⟩, fun z => ⟨by omega, fun x ex => ⟨by omega, fun x2 ex2 _ => ⟨?_, by omega, rfl⟩⟩⟩⟩)⟩
      · rintro _ _ _ ⟨q0, q1, q2⟩
        rw [q0, q1, q2]
        exact ih (o + 1) (by omega)
      · rw [mHas_n (by omega)] at er
        have nq : gI h 344 (201 + 3 * o) ≠ 1 := fun w => by rw [if_pos w] at er; omega
        rw [cntB, if_neg (fun w => nq (hh.1 (of_decide_eq_true w)))]
        exact ex
      · rw [mHas_n (by omega)] at er
        have nq : gI h 344 (201 + 3 * o) = 1 := by
          by_cases w : gI h 344 (201 + 3 * o) = 1
          · exact w
          · rw [if_neg w] at er; omega
        rw [cntB, if_pos (decide_eq_true (hh.2 nq))]
        exact ex
  refine vc_X11_present_0 h hS hd (fun y1 y2 g => y1 = 0 ∧ y2 = ((0 : Nat) : Int) ∧ g = h) ?_ (fun _ => ⟨rfl, rfl, rfl⟩)
  rintro _ _ _ ⟨q0, q1, q2⟩
  rw [q0, q1, q2]
  exact loop 4 0 rfl
/-- offsets behind an opened gap -/
def oOp (p n : Int) (q : Int × Int) : Int × Int := (q.1, if p < q.2 then q.2 + n else q.2)
def oCl (p n : Int) (q : Int × Int) : Int × Int := (q.1, if p < q.2 then (if q.2 - n < p then p else q.2 - n) else q.2)
theorem sp_opens {p n : Int} (hd : 2 ≤ d) (hS : zSh h) (h8 : mdOk h 344 0) (g0 : 0 ≤ p) (g1 : p ≤ gI h 344 200) (g2 : 0 ≤ n) (g3 : gI h 344 200 + n ≤ 200)
    (k : ∀ h', zSh h' → zF4 m344 h h' → gI h' 344 200 = gI h 344 200 + n → (∀ j : Nat, (j : Int) < p → gI h' 344 j = gI h 344 j) → (∀ j : Nat, p + n ≤ j → (j : Int) < gI h 344 200 + n → gI h' 344 j = gI h 344 (j - n.toNat)) → (∀ j : Nat, j < 200 → 0 ≤ gI h' 344 j ∧ gI h' 344 j ≤ 255) → (∀ o : Nat, o < 4 → gI h' 344 (201 + 3 * o) = gI h 344 (201 + 3 * o) ∧ gI h' 344 (202 + 3 * o) = gI h 344 (202 + 3 * o) ∧ gI h' 344 (203 + 3 * o) = if gI h 344 (201 + 3 * o) = 1 ∧ p < gI h 344 (203 + 3 * o) then gI h 344 (203 + 3 * o) + n else gI h 344 (203 + 3 * o)) → Q none h') : wpN G d M_X11_opens 0 (zar 0 [vR 343, vI p, vI n]) [] h Q := by
  obtain ⟨b1, b2, b3⟩ := h8
  have b2' : ∀ j : Nat, j < 200 → 0 ≤ gI h 344 j ∧ gI h 344 j ≤ 255 := fun j hj => by have := b2 j hj; rw [Nat.zero_add] at this; exact this
  have ov : ∀ o : Nat, o < 4 → gI h 344 (201 + 3 * o) = 1 → 0 ≤ gI h 344 (203 + 3 * o) ∧ gI h 344 (203 + 3 * o) ≤ 200 := fun o ho q => by
    have := b3 o ho (by rw [show 0 + 201 + 3 * o = 201 + 3 * o by omega]; exact q)
    rw [show 0 + 203 + 3 * o = 203 + 3 * o by omega] at this
    exact ⟨this.2.1, by have := this.2.2; have := b1.2; omega⟩
  have c1 : 0 ≤ gI h 344 200 := b1.1
  have c2 : gI h 344 200 ≤ 200 := b1.2
  have loop2 : ∀ (m o : Nat) (g : zHp), o + m = 4 → zSh g → zF4 m344 h g → gI g 344 200 = gI h 344 200 + n → (∀ j : Nat, (j : Int) < p → gI g 344 j = gI h 344 j) → (∀ j : Nat, p + n ≤ j → (j : Int) < gI h 344 200 + n → gI g 344 j = gI h 344 (j - n.toNat)) → (∀ j : Nat, j < 200 → 0 ≤ gI g 344 j ∧ gI g 344 j ≤ 255) → (∀ t : Nat, t < 4 → gI g 344 (201 + 3 * t) = gI h 344 (201 + 3 * t) ∧ gI g 344 (202 + 3 * t) = gI h 344 (202 + 3 * t)) → (∀ t : Nat, t < o → gI g 344 (203 + 3 * t) = if gI h 344 (201 + 3 * t) = 1 ∧ p < gI h 344 (203 + 3 * t) then gI h 344 (203 + 3 * t) + n else gI h 344 (203 + 3 * t)) → (∀ t : Nat, o ≤ t → t < 4 → gI g 344 (203 + 3 * t) = gI h 344 (203 + 3 * t)) → wpN G d M_X11_opens 46 [(0, vR 343), (1, vI p), (2, vI n), (3, vI (o : Int))] [] g Q := by
    intro m
    induction m with
    | zero =>
      intro o g ho s F e1 e2 e3 e4 e5 e6 e7
      refine vc_X11_opens_46 p n o g s hd (fun _ _ _ _ => False) (fun _ _ _ _ q => q.elim) ⟨fun c => k g s F e1 e2 e3 e4 (fun t ht => ⟨(e5 t ht).1, (e5 t ht).2, e6 t (by omega)⟩), fun c => by omega⟩
    | succ m ih =>
      intro o g ho s F e1 e2 e3 e4 e5 e6 e7
      have eo := e7 o (Nat.le_refl o) (by omega)
      have ef := (e5 o (by omega)).1
      refine vc_X11_opens_46 p n o g s hd (fun y1 y2 y3 g' => y1 = p ∧ y2 = n ∧ y3 = ((o + 1 : Nat) : Int) ∧ g' = if gI h 344 (201 + 3 * o) = 1 ∧ p < gI h 344 (203 + 3 * o) then sI g 344 (203 + 3 * o) (gI h 344 (203 + 3 * o) + n) else g) ?_ ⟨fun c => by omega, fun c => sp_isPresent (by omega) s (fun r er => qI_i ⟨s, fun z => ⟨by omega, fun x ex _ => ⟨rfl, rfl, by omega, ?_⟩⟩, fun z => sp_offsetOf s (by omega) (qI_i ⟨s, fun z1 => ⟨by omega, fun x ex _ => ⟨rfl, rfl, by omega, ?_⟩⟩, fun z1 => sp_offsetOf s (by omega) (qI_i ⟨s, ?_, ?_⟩)⟩)⟩)⟩
      · rintro _ _ _ _ ⟨q0, q1, q2, q3⟩
        rw [q0, q1, q2, q3]
        by_cases hc : gI h 344 (201 + 3 * o) = 1 ∧ p < gI h 344 (203 + 3 * o)
        · rw [if_pos hc]
          refine ih (o + 1) _ (by omega) s (F.tr (zF4.sI rfl)) (by rw [gI_sI, if_neg (by omega)]; exact e1) (fun j hj => by rw [gI_sI, if_neg (by omega)]; exact e2 j hj) (fun j hj hj2 => by rw [gI_sI, if_neg (by omega)]; exact e3 j hj hj2) (fun j hj => by rw [gI_sI, if_neg (by omega)]; exact e4 j hj) (fun t ht => by rw [gI_sI, if_neg (by omega), gI_sI, if_neg (by omega)]; exact e5 t ht) (fun t ht => ?_) (fun t ht ht2 => by rw [gI_sI, if_neg (by omega)]; exact e7 t (by omega) ht2)
          by_cases et : t = o
          · rw [et, gI_sI, if_pos ⟨rfl, rfl⟩, if_pos hc]
          · rw [gI_sI, if_neg (by omega)]; exact e6 t (by omega)
        · rw [if_neg hc]
          refine ih (o + 1) _ (by omega) s F e1 e2 e3 e4 e5 (fun t ht => ?_) (fun t ht ht2 => e7 t (by omega) ht2)
          by_cases et : t = o
          · rw [et, if_neg hc]; exact eo
          · exact e6 t (by omega)
      · rw [mHas_n (by omega), ef] at er
        rw [if_neg (fun w => by rw [if_pos w.1] at er; omega)]
      · rw [if_neg (fun w => by rw [eo] at z1; omega)]
      · rw [mHas_n (by omega), ef] at er
        have fl : gI h 344 (201 + 3 * o) = 1 := by
          by_cases w : gI h 344 (201 + 3 * o) = 1
          · exact w
          · rw [if_neg w] at er; omega
        have := ov o (by omega) fl
        rw [eo]
        omega
      · rw [mHas_n (by omega), ef] at er
        have fl : gI h 344 (201 + 3 * o) = 1 := by
          by_cases w : gI h 344 (201 + 3 * o) = 1
          · exact w
          · rw [if_neg w] at er; omega
        refine sp_moves s (by omega) (fun h21 e21 => qV_i ⟨by rw [e21]; exact s, by omega, fun x ex _ => ⟨rfl, rfl, by omega, ?_⟩⟩)
        rw [if_pos ⟨fl, by rw [eo] at z1; exact z1⟩, e21, eo]
  have loop1 : ∀ (m : Nat) (c : Int) (g : zHp), c + 1 = p + m → c < gI h 344 200 → zSh g → zF4 m344 h g → (∀ j : Nat, gI g 344 j = if c + n < j ∧ (j : Int) < gI h 344 200 + n then gI h 344 (j - n.toNat) else gI h 344 j) → wpN G d M_X11_opens 7 [(0, vR 343), (1, vI p), (2, vI n), (3, vI c)] [] g Q := by
    intro m
    induction m with
    | zero =>
      intro c g hc hl s F e
      refine vc_X11_opens_7 p n c g s hd (fun _ _ _ _ => False) (fun _ _ _ _ q => q.elim) (fun y1 y2 y3 g' => y1 = p ∧ y2 = n ∧ y3 = ((0 : Nat) : Int) ∧ g' = sI g 344 200 (gI h 344 200 + n)) ?_ ⟨fun c1 => ?_, fun c1 => by omega⟩
      · rintro _ _ _ _ ⟨q0, q1, q2, q3⟩
        rw [q0, q1, q2, q3]
        refine loop2 4 0 _ rfl s (F.tr (zF4.sI rfl)) (by rw [gI_sI, if_pos ⟨rfl, rfl⟩]) (fun j hj => by rw [gI_sI, if_neg (by omega), e, if_neg (by omega)]) (fun j hj hj2 => by rw [gI_sI, if_neg (by omega), e, if_pos (by omega)]) (fun j hj => ?_) (fun t ht => by rw [gI_sI, if_neg (by omega), gI_sI, if_neg (by omega), e, if_neg (by omega), e, if_neg (by omega)]; exact ⟨rfl, rfl⟩) (fun t ht => absurd ht (by omega)) (fun t ht ht2 => by rw [gI_sI, if_neg (by omega), e, if_neg (by omega)])
        rw [gI_sI, if_neg (by omega), e]
        split
        · exact b2' _ (by omega)
        · exact b2' _ hj
      · have e200 : gI g 344 200 = gI h 344 200 := by rw [e, if_neg (by omega)]
        rw [e200]
        exact ⟨by omega, fun h2 e2 _ => ⟨rfl, rfl, rfl, e2⟩⟩
    | succ m ih =>
      intro c g hc hl s F e
      refine vc_X11_opens_7 p n c g s hd (fun y1 y2 y3 g' => y1 = p ∧ y2 = n ∧ y3 = c + (-1) ∧ g' = sI g 344 (c + n).toNat (gI g 344 c.toNat)) ?_ (fun _ _ _ _ => False) (fun _ _ _ _ q => q.elim) ⟨fun c1 => by omega, fun c1 => ⟨by omega, by omega, by omega, fun h4 e4 => ⟨by omega, fun x ex _ => ⟨rfl, rfl, ex, e4⟩⟩⟩⟩
      rintro _ _ _ _ ⟨q0, q1, q2, q3⟩
      rw [q0, q1, q2, q3]
      refine ih (c + (-1)) _ (by omega) (by omega) s (F.tr (zF4.sI rfl)) (fun j => ?_)
      rw [gI_sI]
      by_cases q : j = (c + n).toNat
      · rw [if_pos ⟨rfl, q⟩, if_pos (by omega), e, if_neg (by omega), show j - n.toNat = c.toNat by omega]
      · rw [if_neg (fun w => q w.2), e]
        by_cases q2 : c + n < j ∧ (j : Int) < gI h 344 200 + n
        · rw [if_pos q2, if_pos (by omega)]
        · rw [if_neg q2, if_neg (by omega)]
  refine vc_X11_opens_0 p n h hS hd (fun y1 y2 y3 g' => y1 = p ∧ y2 = n ∧ y3 = gI h 344 200 - 1 ∧ g' = h) ?_ (sp_size hS (qI_i ⟨hS, by omega, fun x5 e5 _ => ⟨rfl, rfl, e5, rfl⟩⟩))
  rintro _ _ _ _ ⟨q0, q1, q2, q3⟩
  rw [q0, q1, q2, q3]
  refine loop1 (gI h 344 200 - p).toNat _ h (by omega) (by omega) hS zF4.rf (fun j => ?_)
  rw [if_neg (by omega)]
end MD
