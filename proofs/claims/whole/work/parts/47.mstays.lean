/-! behind a change: the model -/
def mSc : Nat → Nat → Prop := fun b j => b = 344 ∨ (b = 343 ∧ 15 ≤ j) ∨ (354 ≤ b ∧ b ≤ 369)
def mSt : Nat → Nat → Prop := fun b j => mHi b j ∨ mSc b j
theorem mhist_F {P : Nat → Nat → Prop} {h g : zHp} (ho : mhOk h) (F : zF4 P h g) (p2 : ¬ P 343 2) (p4 : ¬ P 343 4) (p5 : ∀ j, ¬ P 345 j) (p6 : ∀ j, ¬ P 346 j) (hm : mdOk g 344 0) : mhOk g ∧ mPast g = mPast h ∧ mFut g = mFut h := by
  obtain ⟨o1, o2, o3, o4, o5, o6⟩ := ho
  have e2 := F.I _ _ p2
  have e4 := F.I _ _ p4
  refine ⟨⟨by omega, by omega, by omega, hm, fun i hi => mdOk_cp (o5 i (by omega)) (fun j _ => F.I _ _ (p5 _)), fun i hi => mdOk_cp (o6 i (by omega)) (fun j _ => F.I _ _ (p6 _))⟩, ?_, ?_⟩
  · unfold mPast
    rw [e2]
    exact List.map_congr_left (fun i hi => mv_cp (o5 i (by have := List.mem_range.mp hi; omega)) (fun j _ => F.I _ _ (p5 _)))
  · unfold mFut
    rw [e4]
    exact List.map_congr_left (fun i hi => mv_cp (o6 _ (by have := List.mem_range.mp hi; omega)) (fun j _ => F.I _ _ (p6 _)))
section MST
variable {G : zG} {d : Nat} {Q : Option zV → zHp → Prop} {h : zHp}
/-- the kept state goes onto the past -/
theorem mpush {u : Nat} (hS : zSh h) (eu : gI h 343 2 = (u : Int)) (hu : u < 12)
    (k : ∀ h', zSh h' → zF4 mHi h h' → gI h' 343 2 = (u : Int) + 1 → gI h' 343 4 = 0 → (∀ j, ¬ (213 * u ≤ j ∧ j < 213 * u + 213) → gI h' 345 j = gI h 345 j) → (∀ j, j < 213 → gI h' 345 (213 * u + j) = gI h 347 (0 + j)) → (∀ j, gI h' 344 j = gI h 344 j) → Q (some (vI 1)) h') :
    ((-2147483648 ≤ 213 * (gI h 343 2) ∧ 213 * (gI h 343 2) ≤ 2147483647) ∧ (wpN G (d - 1) M_X11_copies 0 (zar 0 [vR 347, vI 0, vR 345, vI (213 * (gI h 343 2))]) [] h (qV (fun h5 => zSh h5 ∧ ((-2147483648 ≤ (gI h5 343 2) + 1 ∧ (gI h5 343 2) + 1 ≤ 2147483647) ∧ (∀ h8 : zHp, h8 = sI h5 343 2 ((gI h5 343 2) + 1) → (∀ h10 : zHp, h10 = sI h8 343 4 0 → Q (some (vI 1)) h10))))))) := by
  rw [eu, show 213 * (u : Int) = ((213 * u : Nat) : Int) by omega]
  refine ⟨by omega, sp_copies (o := 0) (by rw [zl_347]; exact tT_347) (by rw [zl_345]; exact tT_345) hS (by rw [zl_347]; omega) (by rw [zl_345]; omega) (by rw [zl_347]; omega) (by rw [zl_345]; omega) (by omega) (fun h5 s5 F5 c5 => qV_i ⟨s5, ?_⟩)⟩
  have n5 : ∀ b j, b ≠ 345 → gI h5 b j = gI h b j := fun b j q => F5.I _ _ (by rintro ⟨w, _⟩; exact q w)
  have u5 : gI h5 343 2 = u := by rw [n5 _ _ (by omega), eu]
  refine ⟨by omega, fun h8 e8 h10 e10 => ?_⟩
  have m10 : ∀ b j, b ≠ 343 → gI h10 b j = gI h5 b j := fun b j q => by rw [e10, gI_sI, if_neg (by omega), e8, gI_sI, if_neg (by omega)]
  have F10 : zF4 mHi h h10 := by
    rw [e10, e8]
    exact (F5.mono (fun b j q => Or.inr ⟨by have := q.1; omega, by have := q.1; omega⟩)).tr ((zF4.sI (Or.inl ⟨rfl, Or.inl rfl⟩)).tr (zF4.sI (Or.inl ⟨rfl, Or.inr rfl⟩)))
  refine k h10 (F10.Sh hS) F10 ?_ ?_ (fun j hj => ?_) (fun j hj => ?_) (fun j => ?_)
  · rw [e10, gI_sI, if_neg (by omega), e8, gI_sI, if_pos ⟨rfl, rfl⟩, u5]
  · rw [e10, gI_sI, if_pos ⟨rfl, rfl⟩]
  · rw [m10 _ _ (by omega), F5.I _ _ (by rintro ⟨_, w⟩; exact hj w)]
  · rw [m10 _ _ (by omega), c5 j hj]
  · rw [m10 _ _ (by omega), n5 _ _ (by omega)]
/-- the change stays: the kept state goes onto the past, the oldest falls off, the future is gone -/
theorem mcommit {y1 y2 : Int} (hd : 7 ≤ d) (hS : zSh h) (ho : mhOk h) (hk : mdOk h 347 0)
    (k : ∀ h', zSh h' → zF4 mHi h h' → mhOk h' → mPast h' = trim12 (mPast h ++ [mv h 347 0]) → mFut h' = [] → mv h' 344 0 = mv h 344 0 → Q (some (vI 1)) h') :
    ((gI h 343 2) ≠ 12 → ((-2147483648 ≤ 213 * (gI h 343 2) ∧ 213 * (gI h 343 2) ≤ 2147483647) ∧ (wpN G (d - 1) M_X11_copies 0 (zar 0 [vR 347, vI 0, vR 345, vI (213 * (gI h 343 2))]) [] h (qV (fun h5 => zSh h5 ∧ ((-2147483648 ≤ (gI h5 343 2) + 1 ∧ (gI h5 343 2) + 1 ≤ 2147483647) ∧ (∀ h8 : zHp, h8 = sI h5 343 2 ((gI h5 343 2) + 1) → (∀ h10 : zHp, h10 = sI h8 343 4 0 → Q (some (vI 1)) h10)))))))) ∧
    ((gI h 343 2) = 12 → (zSh h → wpN G d M_X11_stays 58 [(0, vR 343), (1, vI y1), (2, vI y2), (3, vI 0)] [] h Q)) := by
  obtain ⟨o1, o2, o3, o4, o5, o6⟩ := ho
  have l1 := mPast_len h
  refine ⟨fun c => ?_, fun c _ => ?_⟩
  · obtain ⟨u, eu⟩ : ∃ u : Nat, gI h 343 2 = (u : Int) := ⟨(gI h 343 2).toNat, by omega⟩
    refine mpush hS eu (by omega) (fun h' s' F' u' r' f' g' q' => ?_)
    have fk : ∀ i : Nat, i < u → ∀ j, j < 213 → gI h' 345 (213 * i + j) = gI h 345 (213 * i + j) := fun i hi j hj => f' _ (by omega)
    have l2 := mPast_len h'
    refine k h' s' F' ⟨by omega, by omega, by omega, mdOk_cp o4 (fun j _ => q' _), fun i hi => ?_, fun i hi => by omega⟩ ?_ (by unfold mFut; rw [r']; rfl) (mv_cp o4 (fun j _ => q' _))
    · by_cases w : i = u
      · rw [w]; exact mdOk_cp hk g'
      · exact mdOk_cp (o5 i (by omega)) (fk i (by omega))
    · unfold trim12
      rw [if_neg (by simp; omega)]
      apply List.ext_getElem?
      intro i
      by_cases w : i < u
      · rw [List.getElem?_append_left (by omega), mPast_get (by omega), mPast_get (by omega), mv_cp (o5 i (by omega)) (fk i w)]
      · by_cases w2 : i = u
        · rw [List.getElem?_append_right (by omega), mPast_get (by omega), show i - (mPast h).length = 0 by omega, w2, mv_cp hk g']
          rfl
        · rw [List.getElem?_eq_none (by omega), List.getElem?_eq_none (by simp; omega)]
  · have loop : ∀ (n t : Nat) (g : zHp), t + n = 2343 → zSh g → zF4 mHi h g → (∀ b j, b ≠ 345 → gI g b j = gI h b j) → (∀ j : Nat, gI g 345 j = if j < t then gI h 345 (j + 213) else gI h 345 j) → wpN G d M_X11_stays 58 [(0, vR 343), (1, vI y1), (2, vI y2), (3, vI (t : Int))] [] g Q := by
      intro n
      induction n with
      | zero =>
        intro t g ht s F e1 e2
        refine vc_X11_stays_58 y1 y2 t g s hd (fun _ _ _ _ => False) (fun _ _ _ _ q => q.elim) ⟨fun c1 => ⟨by rw [e1 _ _ (by omega)]; omega, fun h2 q2 => ?_⟩, fun c1 => by omega⟩
        have u2 : gI h2 343 2 = ((11 : Nat) : Int) := by rw [q2, gI_sI, if_pos ⟨rfl, rfl⟩, e1 _ _ (by omega), c]; rfl
        have n2 : ∀ b j, b ≠ 343 → gI h2 b j = gI g b j := fun b j q => by rw [q2, gI_sI, if_neg (by omega)]
        have F2 : zF4 mHi h h2 := by rw [q2]; exact F.tr (zF4.sI (Or.inl ⟨rfl, Or.inl rfl⟩))
        refine mpush (F2.Sh hS) u2 (by omega) (fun h' s' F' u' r' f' g' q' => ?_)
        have fk : ∀ i : Nat, i < 11 → ∀ j, j < 213 → gI h' 345 (213 * i + j) = gI h 345 (213 * (i + 1) + j) := fun i hi j hj => by
          rw [f' _ (by omega), n2 _ _ (by omega), e2, if_pos (by omega)]
          congr 1
          omega
        have gk : ∀ j, j < 213 → gI h' 345 (213 * 11 + j) = gI h 347 (0 + j) := fun j hj => by rw [g' j hj, n2 _ _ (by omega), e1 _ _ (by omega)]
        have qk : ∀ j, gI h' 344 j = gI h 344 j := fun j => by rw [q' j, n2 _ _ (by omega), e1 _ _ (by omega)]
        have l2 := mPast_len h'
        refine k h' s' (F2.tr F') ⟨by omega, by omega, by omega, mdOk_cp o4 (fun j _ => qk _), fun i hi => ?_, fun i hi => by omega⟩ ?_ (by unfold mFut; rw [r']; rfl) (mv_cp o4 (fun j _ => qk _))
        · by_cases w : i = 11
          · rw [w]; exact mdOk_cp hk gk
          · exact mdOk_cp (o5 (i + 1) (by omega)) (fk i (by omega))
        · unfold trim12
          rw [if_pos (by simp; omega)]
          apply List.ext_getElem?
          intro i
          rw [List.getElem?_drop]
          by_cases w : i < 11
          · rw [List.getElem?_append_left (by omega), mPast_get (by omega), mPast_get (by omega), mv_cp (o5 (i + 1) (by omega)) (fk i w), Nat.add_comm 1 i]
          · by_cases w2 : i = 11
            · rw [List.getElem?_append_right (by omega), mPast_get (by omega), show 1 + i - (mPast h).length = 0 by omega, w2, mv_cp hk gk]
              rfl
            · rw [List.getElem?_eq_none (by omega), List.getElem?_eq_none (by simp; omega)]
      | succ n ih =>
        intro t g ht s F e1 e2
        refine vc_X11_stays_58 y1 y2 t g s hd (fun z1 z2 z3 g' => z1 = y1 ∧ z2 = y2 ∧ z3 = ((t + 1 : Nat) : Int) ∧ g' = sI g 345 t (gI g 345 (t + 213))) ?_ ⟨fun c1 => by omega, fun c1 => ⟨by omega, by omega, by omega, fun h12 e12 => ⟨by omega, fun x ex _ => ⟨rfl, rfl, by omega, ?_⟩⟩⟩⟩
        · rintro _ _ _ _ ⟨q0, q1, q2, q3⟩
          rw [q0, q1, q2, q3]
          refine ih (t + 1) _ (by omega) s (F.tr (zF4.sI (Or.inr ⟨by omega, by omega⟩))) (fun b j q => by rw [gI_sI, if_neg (by omega)]; exact e1 b j q) (fun j => ?_)
          rw [gI_sI]
          by_cases q : j = t
          · rw [if_pos ⟨rfl, q⟩, e2, if_neg (by omega), if_pos (by omega), q]
          · rw [if_neg (by omega), e2]
            by_cases q2 : j < t
            · rw [if_pos q2, if_pos (by omega)]
            · rw [if_neg q2, if_neg (by omega)]
        · rw [e12, show (t : Int).toNat = t by omega, show ((t : Int) + 213).toNat = t + 213 by omega]
    exact loop 2343 0 h rfl hS zF4.rf (fun _ _ _ => rfl) (fun j => by rw [if_neg (by omega)])
theorem mrestore (hS : zSh h) (ho : mhOk h) (hk : mdOk h 347 0) (k : ∀ h', zSh h' → zF4 mHi h h' → mhOk h' → mPast h' = mPast h → mFut h' = mFut h → mv h' 344 0 = mv h 347 0 → Q (some (vI 0)) h') :
    wpN G d M_X11_copies 0 (zar 0 [vR 347, vI 0, vR 344, vI 0]) [] h (qV (fun h13 => zSh h13 ∧ Q (some (vI 0)) h13)) := by
  refine sp_copies (o := 0) (p := 0) (by rw [zl_347]; exact tT_347) (by rw [zl_344]; exact tT_344) hS (by rw [zl_347]; omega) (by rw [zl_344]; omega) (by rw [zl_347]; omega) (by rw [zl_344]; omega) (by omega) (fun h' s' F' c' => qV_i ⟨s', ?_⟩)
  obtain ⟨r1, r2, r3⟩ := mhist_F ho F' (by rintro ⟨w, _⟩; omega) (by rintro ⟨w, _⟩; omega) (by rintro j ⟨w, _⟩; omega) (by rintro j ⟨w, _⟩; omega) (mdOk_cp hk c')
  exact k h' s' (F'.mono (fun b j q => Or.inr ⟨by have := q.1; omega, by have := q.1; omega⟩)) r1 r2 r3 (mv_cp hk c')
theorem sp_stays {st : Int} {Up : Int → List Int × List (Int × Int) → Prop} (hd : 7 ≤ d) (hS : zSh h) (ho : mhOk h) (hk : mdOk h 347 0)
    (hU : st ≠ 0 → gI h 343 6 ≠ 0 → ∀ Q' : Option zV → zHp → Prop, (∀ g r, zSh g → zF4 mSc h g → mdOk g 344 0 → Up r (mv g 344 0) → Q' (some (vI r)) g) → wpN G (d - 1) M_X11_updates 0 (zar 0 [vR 343]) [] h Q')
    (kN : st ≠ 0 → gI h 343 6 = 0 → ∀ h', zSh h' → zF4 mSt h h' → mhOk h' → mPast h' = trim12 (mPast h ++ [mv h 347 0]) → mFut h' = [] → mv h' 344 0 = mv h 344 0 → Q (some (vI 1)) h')
    (kU : st ≠ 0 → gI h 343 6 ≠ 0 → ∀ h' r, Up r (mv h' 344 0) → 0 ≤ r → zSh h' → zF4 mSt h h' → mhOk h' → mPast h' = trim12 (mPast h ++ [mv h 347 0]) → mFut h' = [] → Q (some (vI 1)) h')
    (k0 : (st = 0 ∨ (gI h 343 6 ≠ 0 ∧ ∃ r v, Up r v ∧ r < 0)) → ∀ h', zSh h' → zF4 mSt h h' → mhOk h' → mPast h' = mPast h → mFut h' = mFut h → mv h' 344 0 = mv h 347 0 → Q (some (vI 0)) h') :
    wpN G d M_X11_stays 0 (zar 0 [vR 343, vI st]) [] h Q := by
  have up : ∀ b j, mHi b j → mSt b j := fun b j q => Or.inl q
  refine vc_X11_stays_0 st h hS hd (fun y1 y2 y3 g => wpN G d M_X11_stays 58 [(0, vR 343), (1, vI y1), (2, vI y2), (3, vI y3)] [] g Q) (fun _ _ _ _ q => q) ⟨fun c => ⟨fun c1 => absurd c c1, fun c1 => ?_⟩, fun c => ⟨fun c1 => ⟨fun c2 => ?_, fun c2 => absurd c2 c⟩, fun c1 => hU c c1 _ (fun g r sg Fg mg ug => qI_i ⟨sg, fun c2 => ?_, fun c2 => ?_⟩)⟩⟩
  · exact mrestore hS ho hk (fun h' s' F' O' P' U' V' => k0 (Or.inl c) h' s' (F'.mono up) O' P' U' V')
  · exact mcommit hd hS ho hk (fun h' s' F' O' P' U' V' => kN c c1 h' s' (F'.mono up) O' P' U' V')
  · obtain ⟨r1, r2, r3⟩ := mhist_F ho Fg (by rintro (w | ⟨w, w2⟩ | ⟨w, w2⟩) <;> omega) (by rintro (w | ⟨w, w2⟩ | ⟨w, w2⟩) <;> omega) (by rintro j (w | ⟨w, w2⟩ | ⟨w, w2⟩) <;> omega) (by rintro j (w | ⟨w, w2⟩ | ⟨w, w2⟩) <;> omega) mg
    have e7 : ∀ j : Nat, j < 213 → gI g 347 (0 + j) = gI h 347 (0 + j) := fun j _ => Fg.I _ _ (by rintro (w | ⟨w, w2⟩ | ⟨w, w2⟩) <;> omega)
    exact mrestore sg r1 (mdOk_cp hk e7) (fun h' s' F' O' P' U' V' => k0 (Or.inr ⟨c1, r, _, ug, c2⟩) h' s' ((Fg.mono (fun b j q => Or.inr q)).tr (F'.mono up)) O' (by rw [P', r2]) (by rw [U', r3]) (by rw [V', mv_cp hk e7]))
  · obtain ⟨r1, r2, r3⟩ := mhist_F ho Fg (by rintro (w | ⟨w, w2⟩ | ⟨w, w2⟩) <;> omega) (by rintro (w | ⟨w, w2⟩ | ⟨w, w2⟩) <;> omega) (by rintro j (w | ⟨w, w2⟩ | ⟨w, w2⟩) <;> omega) (by rintro j (w | ⟨w, w2⟩ | ⟨w, w2⟩) <;> omega) mg
    have e7 : ∀ j : Nat, j < 213 → gI g 347 (0 + j) = gI h 347 (0 + j) := fun j _ => Fg.I _ _ (by rintro (w | ⟨w, w2⟩ | ⟨w, w2⟩) <;> omega)
    exact mcommit hd sg r1 (mdOk_cp hk e7) (fun h' s' F' O' P' U' V' => kU c c1 h' r (by rw [V']; exact ug) c2 s' ((Fg.mono (fun b j q => Or.inr q)).tr (F'.mono up)) O' (by rw [P', r2, mv_cp hk e7]) U')
end MST
