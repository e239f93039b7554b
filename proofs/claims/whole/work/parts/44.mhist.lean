/-! the history of the model -/
def mCp (b p : Nat) : Nat → Nat → Prop := fun c j => c = b ∧ p ≤ j ∧ j < p + 213
def mPast (h : zHp) : List (List Int × List (Int × Int)) := (List.range (gI h 343 2).toNat).map (fun i => mv h 345 (213 * i))
def mFut (h : zHp) : List (List Int × List (Int × Int)) := (List.range (gI h 343 4).toNat).map (fun i => mv h 346 (213 * ((gI h 343 4).toNat - 1 - i)))
def mhOk (h : zHp) : Prop := 0 ≤ gI h 343 2 ∧ 0 ≤ gI h 343 4 ∧ gI h 343 2 + gI h 343 4 ≤ 12 ∧ mdOk h 344 0 ∧ (∀ i : Nat, (i : Int) < gI h 343 2 → mdOk h 345 (213 * i)) ∧ ∀ i : Nat, (i : Int) < gI h 343 4 → mdOk h 346 (213 * i)
theorem mPast_len (h : zHp) : (mPast h).length = (gI h 343 2).toNat := by simp [mPast]
theorem mFut_len (h : zHp) : (mFut h).length = (gI h 343 4).toNat := by simp [mFut]
theorem mPast_get {h : zHp} {i : Nat} (hi : (i : Int) < gI h 343 2) : (mPast h)[i]? = some (mv h 345 (213 * i)) := by
  rw [mPast, List.getElem?_map, List.getElem?_range (by omega)]
  rfl
theorem mFut_get {h : zHp} {i : Nat} (hi : (i : Int) < gI h 343 4) : (mFut h)[i]? = some (mv h 346 (213 * ((gI h 343 4).toNat - 1 - i))) := by
  rw [mFut, List.getElem?_map, List.getElem?_range (by omega)]
  rfl
def mHi : Nat → Nat → Prop := fun b j => (b = 343 ∧ (j = 2 ∨ j = 4)) ∨ (344 ≤ b ∧ b ≤ 347)
section MH
variable {G : zG} {d : Nat} {Q : Option zV → zHp → Prop} {h : zHp}
theorem sp_copies {a b o p : Nat} (hTa : zT 369 a = (0, zlen a)) (hTb : zT 369 b = (0, zlen b)) (hS : zSh h) (ha : o + 213 ≤ zlen a) (hb : p + 213 ≤ zlen b) (la : zlen a ≤ 2556) (lb : zlen b ≤ 2556) (ne : a ≠ b)
    (k : ∀ h', zSh h' → zF4 (mCp b p) h h' → (∀ j : Nat, j < 213 → gI h' b (p + j) = gI h a (o + j)) → Q none h') : wpN G d M_X11_copies 0 (zar 0 [vR a, vI (o : Int), vR b, vI (p : Int)]) [] h Q := by
  have loop : ∀ (n c : Nat) (g : zHp), c + n = 213 → zSh g → zF4 (mCp b p) h g → (∀ j : Nat, j < c → gI g b (p + j) = gI h a (o + j)) → wpN G d M_X11_copies 3 [(0, vR a), (1, vI (o : Int)), (2, vR b), (3, vI (p : Int)), (4, vI (c : Int))] [] g Q := by
    intro n
    induction n with
    | zero =>
      intro c g hc s F e
      refine vc_X11_copies_3 a hTa o b hTb p c g s (Nat.zero_le _) (fun _ _ _ _ _ _ => False) (fun _ _ _ _ _ _ q => q.elim) ⟨fun _ => k g s F (fun j hj => e j (by omega)), fun q => by omega⟩
    | succ n ih =>
      intro c g hc s F e
      refine vc_X11_copies_3 a hTa o b hTb p c g s (Nat.zero_le _) (fun y0 y1 y2 y3 y4 g' => y0 = a ∧ y1 = (o : Int) ∧ y2 = b ∧ y3 = (p : Int) ∧ y4 = ((c + 1 : Nat) : Int) ∧ g' = sI g b (p + c) (gI g a (o + c))) ?_ ⟨fun _ => by omega, fun q => ⟨by omega, by omega, by omega, by omega, fun h2 e2 => ⟨by omega, fun x ex _ => ⟨rfl, rfl, rfl, rfl, by omega, ?_⟩⟩⟩⟩
      · rintro _ _ _ _ _ g' ⟨q0, q1, q2, q3, q4, q5⟩
        rw [q0, q1, q2, q3, q4, q5]
        refine ih (c + 1) _ (by omega) s (F.tr (zF4.sI ⟨rfl, by omega, by omega⟩)) (fun j hj => ?_)
        rw [gI_sI]
        by_cases q : j = c
        · rw [if_pos ⟨rfl, by omega⟩, q, F.I _ _ (by rintro ⟨w, _⟩; exact ne w)]
        · rw [if_neg (by omega)]
          exact e j (by omega)
      · rw [e2, show ((p : Int) + (c : Int)).toNat = p + c by omega, show ((o : Int) + (c : Int)).toNat = o + c by omega]
  refine vc_X11_copies_0 a hTa o b hTb p h hS (Nat.zero_le _) (fun y0 y1 y2 y3 y4 g' => y0 = a ∧ y1 = (o : Int) ∧ y2 = b ∧ y3 = (p : Int) ∧ y4 = ((0 : Nat) : Int) ∧ g' = h) ?_ (fun _ => ⟨rfl, rfl, rfl, rfl, rfl, rfl⟩)
  rintro _ _ _ _ _ g' ⟨q0, q1, q2, q3, q4, q5⟩
  rw [q0, q1, q2, q3, q4, q5]
  exact loop 213 0 h rfl hS zF4.rf (fun j hj => absurd hj (by omega))
theorem zl_344 : zlen 344 = 213 := by decide +kernel
theorem zl_345 : zlen 345 = 2556 := by decide +kernel
theorem zl_346 : zlen 346 = 2556 := by decide +kernel
theorem zl_347 : zlen 347 = 213 := by decide +kernel
theorem sp_keeps (hd : 1 ≤ d) (hS : zSh h) (k : ∀ h', zSh h' → zF4 (mCp 347 0) h h' → (∀ j : Nat, j < 213 → gI h' 347 j = gI h 344 j) → Q none h') : wpN G d M_X11_keeps 0 (zar 0 [vR 343]) [] h Q := by
  refine vc_X11_keeps_0 h hS hd (sp_copies (o := 0) (p := 0) (by rw [zl_344]; exact tT_344) (by rw [zl_347]; exact tT_347) hS (by rw [zl_344]; omega) (by rw [zl_347]; omega) (by rw [zl_344]; omega) (by rw [zl_347]; omega) (by omega) (fun h' s F e => qV_i ⟨s, k h' s F (fun j hj => ?_)⟩))
  have := e j hj
  rw [Nat.zero_add] at this
  exact this
theorem sp_X11_undo (hd : 1 ≤ d) (hS : zSh h) (ho : mhOk h) (k0 : mPast h = [] → Q (some (vI (-1002))) h)
    (k : ∀ (h' : zHp) (x : List Int × List (Int × Int)), zSh h' → zF4 mHi h h' → mhOk h' → mPast h = mPast h' ++ [x] → mv h' 344 0 = x → mFut h' = mv h 344 0 :: mFut h → Q (some (vI ((mPast h').length : Nat))) h') : wpN G d M_X11_undo 0 (zar 0 [vR 343]) [] h Q := by
  obtain ⟨o1, o2, o3, o4, o5, o6⟩ := ho
  refine vc_X11_undo_0 h hS hd ⟨fun c => ⟨by omega, fun h2 e2 => ?_⟩, fun c => k0 (by unfold mPast; rw [c]; rfl)⟩
  have u2 : gI h2 343 2 = gI h 343 2 - 1 := by rw [e2, gI_sI, if_pos ⟨rfl, rfl⟩]
  have r2 : gI h2 343 4 = gI h 343 4 := by rw [e2, gI_sI, if_neg (by omega)]
  have m2 : ∀ b j, b ≠ 343 → gI h2 b j = gI h b j := fun b j q => by rw [e2, gI_sI, if_neg (by omega)]
  have F2 : zF4 mHi h h2 := by rw [e2]; exact zF4.sI (Or.inl ⟨rfl, Or.inl rfl⟩)
  have s2 : zSh h2 := F2.Sh hS
  obtain ⟨r, er⟩ : ∃ r : Nat, gI h 343 4 = (r : Int) := ⟨(gI h 343 4).toNat, by omega⟩
  obtain ⟨u, eu⟩ : ∃ u : Nat, gI h 343 2 = (u : Int) + 1 := ⟨(gI h 343 2 - 1).toNat, by omega⟩
  refine ⟨by omega, ?_⟩
  rw [r2, er, show 213 * (r : Int) = ((213 * r : Nat) : Int) by omega]
  refine sp_copies (o := 0) (by rw [zl_344]; exact tT_344) (by rw [zl_346]; exact tT_346) s2 (by rw [zl_344]; omega) (by rw [zl_346]; omega) (by rw [zl_344]; omega) (by rw [zl_346]; omega) (by omega) (fun h5 s5 F5 c5 => qV_i ⟨s5, ?_⟩)
  have n5 : ∀ b j, b ≠ 346 → gI h5 b j = gI h2 b j := fun b j q => F5.I _ _ (by rintro ⟨w, _⟩; exact q w)
  have r5 : gI h5 343 4 = r := by rw [n5 _ _ (by omega), r2, er]
  refine ⟨by omega, fun h8 e8 => ?_⟩
  have u8 : gI h8 343 2 = u := by rw [e8, gI_sI, if_neg (by omega), n5 _ _ (by omega), u2, eu]; omega
  have r8 : gI h8 343 4 = r + 1 := by rw [e8, gI_sI, if_pos ⟨rfl, rfl⟩, r5]
  have m8 : ∀ b j, b ≠ 343 → gI h8 b j = gI h5 b j := fun b j q => by rw [e8, gI_sI, if_neg (by omega)]
  have F8 : zF4 mHi h h8 := by rw [e8]; exact F2.tr ((F5.mono (fun b j q => Or.inr ⟨by have := q.1; omega, by have := q.1; omega⟩)).tr (zF4.sI (Or.inl ⟨rfl, Or.inr rfl⟩)))
  have s8 : zSh h8 := F8.Sh hS
  refine ⟨by omega, ?_⟩
  rw [u8, show 213 * (u : Int) = ((213 * u : Nat) : Int) by omega]
  refine sp_copies (p := 0) (by rw [zl_345]; exact tT_345) (by rw [zl_344]; exact tT_344) s8 (by rw [zl_345]; omega) (by rw [zl_344]; omega) (by rw [zl_345]; omega) (by rw [zl_344]; omega) (by omega) (fun h' s' F' c' => qV_i ⟨s', ?_⟩)
  have n' : ∀ b j, b ≠ 344 → gI h' b j = gI h8 b j := fun b j q => F'.I _ _ (by rintro ⟨w, _⟩; exact q w)
  have u' : gI h' 343 2 = u := by rw [n' _ _ (by omega), u8]
  have r' : gI h' 343 4 = r + 1 := by rw [n' _ _ (by omega), r8]
  have p' : ∀ j, gI h' 345 j = gI h 345 j := fun j => by rw [n' _ _ (by omega), m8 _ _ (by omega), n5 _ _ (by omega), m2 _ _ (by omega)]
  have f' : ∀ j, ¬ (213 * r ≤ j ∧ j < 213 * r + 213) → gI h' 346 j = gI h 346 j := fun j q => by rw [n' _ _ (by omega), m8 _ _ (by omega), F5.I _ _ (by rintro ⟨_, w⟩; exact q w), m2 _ _ (by omega)]
  have g' : ∀ j, j < 213 → gI h' 346 (213 * r + j) = gI h 344 (0 + j) := fun j q => by rw [n' _ _ (by omega), m8 _ _ (by omega), c5 j q, m2 _ _ (by omega)]
  have q' : ∀ j, j < 213 → gI h' 344 (0 + j) = gI h 345 (213 * u + j) := fun j q => by rw [c' j q, m8 _ _ (by omega), n5 _ _ (by omega), m2 _ _ (by omega)]
  have fk : ∀ i : Nat, i < r → ∀ j, j < 213 → gI h' 346 (213 * i + j) = gI h 346 (213 * i + j) := fun i hi j hj => f' _ (by omega)
  have l1 := mPast_len h
  have l2 := mPast_len h'
  have l3 := mFut_len h
  have l4 := mFut_len h'
  have kk := k h' (mv h 345 (213 * u)) s' (F8.tr (F'.mono (fun b j q => Or.inr ⟨by have := q.1; omega, by have := q.1; omega⟩))) ⟨by omega, by omega, by omega, mdOk_cp (o5 u (by omega)) q', fun i hi => mdOk_cp (o5 i (by omega)) (fun j _ => p' _), fun i hi => ?_⟩ ?_ (mv_cp (o5 u (by omega)) q') ?_
  · rw [l2, u', show (((u : Int).toNat : Nat) : Int) = u by omega] at kk
    rw [u']
    exact kk
  · by_cases w : i = r
    · rw [w]; exact mdOk_cp o4 g'
    · exact mdOk_cp (o6 i (by omega)) (fk i (by omega))
  · apply List.ext_getElem?
    intro i
    by_cases w : i < u
    · rw [List.getElem?_append_left (by omega), mPast_get (by omega), mPast_get (by omega), mv_cp (o5 i (by omega)) (fun j _ => p' _)]
    · by_cases w2 : i = u
      · rw [List.getElem?_append_right (by omega), mPast_get (by omega), show i - (mPast h').length = 0 by omega, w2]
        rfl
      · rw [List.getElem?_eq_none (by omega), List.getElem?_eq_none (by simp; omega)]
  · apply List.ext_getElem?
    intro i
    rcases i with _ | i
    · rw [mFut_get (by omega), r', show ((r : Int) + 1).toNat - 1 - 0 = r by omega, mv_cp o4 g']
      rfl
    · rw [List.getElem?_cons_succ]
      by_cases w : i < r
      · rw [mFut_get (by omega), mFut_get (by omega), r', er, show ((r : Int) + 1).toNat - 1 - (i + 1) = r - 1 - i by omega, show (r : Int).toNat - 1 - i = r - 1 - i by omega, mv_cp (o6 (r - 1 - i) (by omega)) (fk (r - 1 - i) (by omega))]
      · rw [List.getElem?_eq_none (by omega), List.getElem?_eq_none (by omega)]
theorem sp_X11_redo (hd : 1 ≤ d) (hS : zSh h) (ho : mhOk h) (k0 : mFut h = [] → Q (some (vI (-1002))) h)
    (k : ∀ (h' : zHp) (x : List Int × List (Int × Int)), zSh h' → zF4 mHi h h' → mhOk h' → mFut h = x :: mFut h' → mv h' 344 0 = x → mPast h' = mPast h ++ [mv h 344 0] → Q (some (vI ((mFut h').length : Nat))) h') : wpN G d M_X11_redo 0 (zar 0 [vR 343]) [] h Q := by
  obtain ⟨o1, o2, o3, o4, o5, o6⟩ := ho
  refine vc_X11_redo_0 h hS hd ⟨fun c => ⟨by omega, fun h2 e2 => ?_⟩, fun c => k0 (by unfold mFut; rw [c]; rfl)⟩
  have r2 : gI h2 343 4 = gI h 343 4 - 1 := by rw [e2, gI_sI, if_pos ⟨rfl, rfl⟩]
  have u2 : gI h2 343 2 = gI h 343 2 := by rw [e2, gI_sI, if_neg (by omega)]
  have m2 : ∀ b j, b ≠ 343 → gI h2 b j = gI h b j := fun b j q => by rw [e2, gI_sI, if_neg (by omega)]
  have F2 : zF4 mHi h h2 := by rw [e2]; exact zF4.sI (Or.inl ⟨rfl, Or.inr rfl⟩)
  have s2 : zSh h2 := F2.Sh hS
  obtain ⟨r, er⟩ : ∃ r : Nat, gI h 343 4 = (r : Int) + 1 := ⟨(gI h 343 4 - 1).toNat, by omega⟩
  obtain ⟨u, eu⟩ : ∃ u : Nat, gI h 343 2 = (u : Int) := ⟨(gI h 343 2).toNat, by omega⟩
  refine ⟨by omega, ?_⟩
  rw [u2, eu, show 213 * (u : Int) = ((213 * u : Nat) : Int) by omega]
  refine sp_copies (o := 0) (by rw [zl_344]; exact tT_344) (by rw [zl_345]; exact tT_345) s2 (by rw [zl_344]; omega) (by rw [zl_345]; omega) (by rw [zl_344]; omega) (by rw [zl_345]; omega) (by omega) (fun h5 s5 F5 c5 => qV_i ⟨s5, ?_⟩)
  have n5 : ∀ b j, b ≠ 345 → gI h5 b j = gI h2 b j := fun b j q => F5.I _ _ (by rintro ⟨w, _⟩; exact q w)
  have u5 : gI h5 343 2 = u := by rw [n5 _ _ (by omega), u2, eu]
  refine ⟨by omega, fun h8 e8 => ?_⟩
  have r8 : gI h8 343 4 = r := by rw [e8, gI_sI, if_neg (by omega), n5 _ _ (by omega), r2, er]; omega
  have u8 : gI h8 343 2 = u + 1 := by rw [e8, gI_sI, if_pos ⟨rfl, rfl⟩, u5]
  have m8 : ∀ b j, b ≠ 343 → gI h8 b j = gI h5 b j := fun b j q => by rw [e8, gI_sI, if_neg (by omega)]
  have F8 : zF4 mHi h h8 := by rw [e8]; exact F2.tr ((F5.mono (fun b j q => Or.inr ⟨by have := q.1; omega, by have := q.1; omega⟩)).tr (zF4.sI (Or.inl ⟨rfl, Or.inl rfl⟩)))
  have s8 : zSh h8 := F8.Sh hS
  refine ⟨by omega, ?_⟩
  rw [r8, show 213 * (r : Int) = ((213 * r : Nat) : Int) by omega]
  refine sp_copies (p := 0) (by rw [zl_346]; exact tT_346) (by rw [zl_344]; exact tT_344) s8 (by rw [zl_346]; omega) (by rw [zl_344]; omega) (by rw [zl_346]; omega) (by rw [zl_344]; omega) (by omega) (fun h' s' F' c' => qV_i ⟨s', ?_⟩)
  have n' : ∀ b j, b ≠ 344 → gI h' b j = gI h8 b j := fun b j q => F'.I _ _ (by rintro ⟨w, _⟩; exact q w)
  have u' : gI h' 343 2 = u + 1 := by rw [n' _ _ (by omega), u8]
  have r' : gI h' 343 4 = r := by rw [n' _ _ (by omega), r8]
  have p' : ∀ j, gI h' 346 j = gI h 346 j := fun j => by rw [n' _ _ (by omega), m8 _ _ (by omega), n5 _ _ (by omega), m2 _ _ (by omega)]
  have f' : ∀ j, ¬ (213 * u ≤ j ∧ j < 213 * u + 213) → gI h' 345 j = gI h 345 j := fun j q => by rw [n' _ _ (by omega), m8 _ _ (by omega), F5.I _ _ (by rintro ⟨_, w⟩; exact q w), m2 _ _ (by omega)]
  have g' : ∀ j, j < 213 → gI h' 345 (213 * u + j) = gI h 344 (0 + j) := fun j q => by rw [n' _ _ (by omega), m8 _ _ (by omega), c5 j q, m2 _ _ (by omega)]
  have q' : ∀ j, j < 213 → gI h' 344 (0 + j) = gI h 346 (213 * r + j) := fun j q => by rw [c' j q, m8 _ _ (by omega), n5 _ _ (by omega), m2 _ _ (by omega)]
  have fk : ∀ i : Nat, i < u → ∀ j, j < 213 → gI h' 345 (213 * i + j) = gI h 345 (213 * i + j) := fun i hi j hj => f' _ (by omega)
  have l1 := mPast_len h
  have l2 := mPast_len h'
  have l3 := mFut_len h
  have l4 := mFut_len h'
  have kk := k h' (mv h 346 (213 * r)) s' (F8.tr (F'.mono (fun b j q => Or.inr ⟨by have := q.1; omega, by have := q.1; omega⟩))) ⟨by omega, by omega, by omega, mdOk_cp (o6 r (by omega)) q', fun i hi => ?_, fun i hi => mdOk_cp (o6 i (by omega)) (fun j _ => p' _)⟩ ?_ (mv_cp (o6 r (by omega)) q') ?_
  · rw [l4, r', show (((r : Int).toNat : Nat) : Int) = r by omega] at kk
    rw [r']
    exact kk
  · by_cases w : i = u
    · rw [w]; exact mdOk_cp o4 g'
    · exact mdOk_cp (o5 i (by omega)) (fk i (by omega))
  · apply List.ext_getElem?
    intro i
    rcases i with _ | i
    · rw [mFut_get (by omega), er, show ((r : Int) + 1).toNat - 1 - 0 = r by omega]
      rfl
    · rw [List.getElem?_cons_succ]
      by_cases w : i < r
      · rw [mFut_get (by omega), mFut_get (by omega), r', er, show ((r : Int) + 1).toNat - 1 - (i + 1) = r - 1 - i by omega, show (r : Int).toNat - 1 - i = r - 1 - i by omega, mv_cp (o6 (r - 1 - i) (by omega)) (fun j _ => p' _)]
      · rw [List.getElem?_eq_none (by omega), List.getElem?_eq_none (by omega)]
  · apply List.ext_getElem?
    intro i
    by_cases w : i < u
    · rw [List.getElem?_append_left (by omega), mPast_get (by omega), mPast_get (by omega), mv_cp (o5 i (by omega)) (fk i w)]
    · by_cases w2 : i = u
      · rw [List.getElem?_append_right (by omega), mPast_get (by omega), show i - (mPast h).length = 0 by omega, w2, mv_cp o4 g']
        rfl
      · rw [List.getElem?_eq_none (by omega), List.getElem?_eq_none (by simp; omega)]
end MH
