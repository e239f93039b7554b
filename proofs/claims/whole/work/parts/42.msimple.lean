theorem mdOk_F4 {P : Nat → Nat → Prop} {h h' : zHp} (F : zF4 P h h') (hp : ∀ j, ¬ P 344 j) (k : mdOk h 344 0) : mdOk h' 344 0 := mdOk_cp k (zF4_mv F hp)
theorem bM_F4 {P : Nat → Nat → Prop} {h h' : zHp} (F : zF4 P h h') (hp : ∀ j, ¬ P 344 j) (k : mdOk h 344 0) : bM h' = bM h := by unfold bM; rw [mv_cp k (zF4_mv F hp)]
theorem nPt344 : ∀ j, ¬ mPt 344 j := by rintro j (⟨a, b⟩ | b) <;> omega
theorem lst_seg {f f0 : Nat → Int} {i n m : Int} (h0 : 0 ≤ i) (h1 : 0 ≤ n) (h2 : i + n ≤ m) (e : ∀ j : Nat, (j : Int) < n → f j = f0 (i.toNat + j)) : lst f n = seg (lst f0 m) i n := by
  unfold seg
  apply List.ext_getElem?
  intro j
  by_cases q : (j : Int) < n
  · rw [lst_get q, List.getElem?_take_of_lt (by omega), List.getElem?_drop, lst_get (by omega), e j q]
  · rw [lst_none (by omega), List.getElem?_eq_none]
    rw [List.length_take]
    omega
section MS2
variable {G : zG} {d : Nat} {Q : Option zV → zHp → Prop} {h : zHp}
theorem sp_X11_find {i : Int} (hd : 3 ≤ d) (hS : zSh h) (ho : mtOk h) (ht : byT (tM h)) (h8 : mdOk h 344 0) (k : ∀ h', zSh h' → zF4 mPt h h' → Q (some (vI (rFind (tM h) (bM h) i))) h') : wpN G d M_X11_find 0 (zar 0 [vR 343, vI i]) [] h Q := by
  have hl := bM_len h8
  have w1 : 0 ≤ gI h 344 200 := h8.1.1
  have w2 : gI h 344 200 ≤ 200 := h8.1.2
  have loop : ∀ (n p : Nat) (g : zHp), zSh g → zF4 mPt h g → mP g (pf (tM h)).2 → (bM h).length < p + n → p ≤ 201 → fndB (fun p => pFitsB (pf (tM h)).2 (bM h) p) (bM h).length n p = rFind (tM h) (bM h) i → wpN G d M_X11_find 32 [(0, vR 343), (1, vI i), (2, vI (p : Int))] [] g Q := by
    intro n
    induction n with
    | zero =>
      intro p g s F P hn hp e
      have e9 : gI g 344 200 = gI h 344 200 := F.I _ _ (nPt344 _)
      rw [fndB] at e
      refine vc_X11_find_32 i p g s hd (fun _ _ _ => False) (fun _ _ _ q => q.elim) (sp_size s (qI_i ⟨s, fun c => by rw [e]; exact k g s F, fun c => by omega⟩))
    | succ n ih =>
      intro p g s F P hn hp e
      have e9 : gI g 344 200 = gI h 344 200 := F.I _ _ (nPt344 _)
      have ed : bM g = bM h := bM_F4 F nPt344 h8
      rw [fndB] at e
      refine vc_X11_find_32 i p g s hd (fun y1 y2 g' => y1 = i ∧ y2 = ((p + 1 : Nat) : Int) ∧ g' = g ∧ p + 1 ≤ 201 ∧ fndB (fun p => pFitsB (pf (tM h)).2 (bM h) p) (bM h).length n (p + 1) = rFind (tM h) (bM h) i) ?_ (sp_size s (qI_i ⟨s, fun c => ?_, fun c => ?_⟩))
      · rintro _ _ _ ⟨q0, q1, q2, q3, q4⟩
        rw [q0, q1, q2]
        exact ih (p + 1) g s F P (by omega) q3 q4
      · rw [if_pos (by omega)] at e
        rw [e]; exact k g s F
      · rw [if_neg (by omega)] at e
        refine sp_X11_matchesAt (by omega) s (mdOk_F4 F nPt344 h8) P (by omega) (fun r r01 t => qI_i ⟨s, fun z => ⟨by omega, fun x ex _ => ⟨rfl, by omega, rfl, by omega, ?_⟩⟩, fun z => ?_⟩)
        · rw [ed, pFits_iff] at t
          rw [if_neg (fun q => by have := t.2 q; omega)] at e
          exact e
        · rw [ed, pFits_iff] at t
          rw [if_pos (t.1 (by omega))] at e
          rw [e]; exact k g s F
  refine vc_X11_find_0 i h hS hd (fun y1 y2 g' => y1 = i ∧ y2 = ((i.toNat : Nat) : Int) ∧ 0 ≤ i ∧ i ≤ 200 ∧ zSh g' ∧ zF4 mPt h g' ∧ mP g' (pf (tM h)).2 ∧ (pf (tM h)).1 = -1009) ?_ (sp_in hS (fun r er => qI_i ⟨hS, fun c => sp_X11_patternFault (by omega) hS ho ht (fun g s F P => qI_i ⟨s, fun c1 _ => ⟨rfl, by omega, by omega, by omega, s, F, P, c1⟩, fun c1 => ?_⟩), fun c => ?_⟩))
  · rintro _ _ g' ⟨q0, q1, q2, q3, q4, q5, q6, q7⟩
    rw [q0, q1]
    refine loop ((bM h).length + 1) i.toNat g' q4 q5 q6 (by omega) (by omega) ?_
    unfold rFind
    rw [if_pos ⟨q2, q3⟩, if_pos q7]
  · have := k g s F
    unfold rFind at this
    rw [if_pos (by omega), if_neg c1] at this
    exact this
  · have := k h hS zF4.rf
    unfold rFind at this
    rw [if_neg (by omega)] at this
    exact this
theorem sp_X11_matches (hd : 3 ≤ d) (hS : zSh h) (ho : mtOk h) (ht : byT (tM h)) (h8 : mdOk h 344 0) (k : ∀ h', zSh h' → zF4 mPt h h' → Q (some (vI (rMatches (tM h) (bM h)))) h') : wpN G d M_X11_matches 0 (zar 0 [vR 343]) [] h Q := by
  have hl := bM_len h8
  have w1 : 0 ≤ gI h 344 200 := h8.1.1
  have w2 : gI h 344 200 ≤ 200 := h8.1.2
  have loop : ∀ (n p : Nat) (g : zHp), zSh g → zF4 mPt h g → mP g (pf (tM h)).2 → p + n = (bM h).length → (pf (tM h)).1 = -1009 → wpN G d M_X11_matches 18 [(0, vR 343), (1, vI (cntB (fun p => pFitsB (pf (tM h)).2 (bM h) p) p)), (2, vI (p : Int))] [] g Q := by
    intro n
    induction n with
    | zero =>
      intro p g s F P hn hf
      have e9 : gI g 344 200 = gI h 344 200 := F.I _ _ (nPt344 _)
      refine vc_X11_matches_18 _ p g s hd (fun _ _ _ => False) (fun _ _ _ q => q.elim) (sp_size s (qI_i ⟨s, fun c => ?_, fun c => by omega⟩))
      have := k g s F
      unfold rMatches at this
      rw [if_pos hf] at this
      rw [show p = (bM h).length by omega]
      exact this
    | succ n ih =>
      intro p g s F P hn hf
      have e9 : gI g 344 200 = gI h 344 200 := F.I _ _ (nPt344 _)
      have ed : bM g = bM h := bM_F4 F nPt344 h8
      have bd := cntB_bd (fun p => pFitsB (pf (tM h)).2 (bM h) p) p
      refine vc_X11_matches_18 _ p g s hd (fun y1 y2 g' => y1 = cntB (fun p => pFitsB (pf (tM h)).2 (bM h) p) (p + 1) ∧ y2 = ((p + 1 : Nat) : Int) ∧ g' = g) ?_ (sp_size s (qI_i ⟨s, fun c => by omega, fun c => sp_X11_matchesAt (by omega) s (mdOk_F4 F nPt344 h8) P (by omega) (fun r r01 t => qI_i ⟨s, fun z => ⟨by omega, fun x ex => ⟨by omega, fun x2 ex2 _ => ⟨?_, by omega, rfl⟩⟩⟩, fun z => ⟨by omega, fun x ex => ⟨by omega, fun x2 ex2 _ => ⟨?_, by omega, rfl⟩⟩⟩⟩)⟩))
      · rintro _ _ _ ⟨q0, q1, q2⟩
        rw [q0, q1, q2]
        exact ih (p + 1) g s F P (by omega) hf
      · rw [ed, pFits_iff] at t
        rw [cntB, if_neg (fun q => by have := t.2 q; omega)]; omega
      · rw [ed, pFits_iff] at t
        rw [cntB, if_pos (t.1 (by omega))]; omega
  refine vc_X11_matches_0 h hS hd (fun y1 y2 g' => y1 = 0 ∧ y2 = ((0 : Nat) : Int) ∧ zSh g' ∧ zF4 mPt h g' ∧ mP g' (pf (tM h)).2 ∧ (pf (tM h)).1 = -1009) ?_ (sp_X11_patternFault (by omega) hS ho ht (fun g s F P => qI_i ⟨s, fun c1 _ => ⟨rfl, rfl, s, F, P, c1⟩, fun c1 => ?_⟩))
  · rintro _ _ g' ⟨q0, q1, q4, q5, q6, q7⟩
    rw [q0, q1]
    exact loop (bM h).length 0 g' q4 q5 q6 (by omega) q7
  · have := k g s F
    unfold rMatches at this
    rw [if_neg c1] at this
    exact this
def mCl : Nat → Nat → Prop := fun b j => (b = 343 ∧ j = 8) ∨ b = 348
def mMk : Nat → Nat → Prop := fun b j => (b = 343 ∧ j = 10) ∨ b = 349
theorem sp_X11_copy {i n : Int} (hd : 1 ≤ d) (hS : zSh h) (h8 : mdOk h 344 0) (hn : -2147483648 ≤ n ∧ n ≤ 2147483647) (kB : ¬ (0 ≤ i ∧ i ≤ (bM h).length ∧ 0 ≤ n ∧ n ≤ 32 ∧ i + n ≤ (bM h).length) → Q (some (vI (-1001))) h)
    (k : ∀ h', (0 ≤ i ∧ i ≤ (bM h).length ∧ 0 ≤ n ∧ n ≤ 32 ∧ i + n ≤ (bM h).length) → zSh h' → zF4 mCl h h' → cM h' = seg (bM h) i n → gI h' 343 8 = n → Q (some (vI n)) h') : wpN G d M_X11_copy 0 (zar 0 [vR 343, vI i, vI n]) [] h Q := by
  have w1 : 0 ≤ gI h 344 200 := h8.1.1
  have w2 : gI h 344 200 ≤ 200 := h8.1.2
  rw [bM_len h8] at k kB
  have loop : ∀ (m j : Nat) (g : zHp), (j : Int) + m = n → 0 ≤ i ∧ i ≤ gI h 344 200 ∧ 0 ≤ n ∧ n ≤ 32 ∧ i + n ≤ gI h 344 200 → zSh g → zF4 mCl h g → (∀ t : Nat, t < j → gI g 348 t = gI h 344 (i.toNat + t)) → wpN G d M_X11_copy 42 [(0, vR 343), (1, vI i), (2, vI n), (3, vI (j : Int))] [] g Q := by
    intro m
    induction m with
    | zero =>
      intro j g hj hc s F e
      refine vc_X11_copy_42 i n j g s hd (fun _ _ _ _ => False) (fun _ _ _ _ q => q.elim) ⟨fun c h2 e2 => ?_, fun c => by omega⟩
      have F2 : zF4 mCl h h2 := by rw [e2]; exact F.tr (zF4.sI (Or.inl ⟨rfl, rfl⟩))
      have e8 : gI h2 343 8 = n := by rw [e2, gI_sI, if_pos ⟨rfl, rfl⟩]
      refine k h2 hc (F2.Sh hS) F2 ?_ e8
      unfold cM
      rw [e8, bM_def]
      refine lst_seg (by omega) (by omega) (by omega) (fun t ht => ?_)
      rw [e2, gI_sI, if_neg (by omega)]
      exact e t (by omega)
    | succ m ih =>
      intro j g hj hc s F e
      have e4 : ∀ t, gI g 344 t = gI h 344 t := fun t => F.I _ _ (by rintro (⟨a, b⟩ | b) <;> omega)
      refine vc_X11_copy_42 i n j g s hd (fun y1 y2 y3 g' => y1 = i ∧ y2 = n ∧ y3 = ((j + 1 : Nat) : Int) ∧ g' = sI g 348 j (gI g 344 (i + j).toNat)) ?_ ⟨fun c => by omega, fun c => ⟨by omega, by omega, by omega, fun h4 q4 => ⟨by omega, fun x ex _ => ⟨rfl, rfl, by omega, q4⟩⟩⟩⟩
      rintro _ _ _ _ ⟨q0, q1, q2, q3⟩
      rw [q0, q1, q2, q3]
      refine ih (j + 1) _ (by omega) hc s (F.tr (zF4.sI (Or.inr rfl))) (fun t ht => ?_)
      rw [gI_sI]
      by_cases q : t = j
      · rw [if_pos ⟨rfl, q⟩, e4, q, show (i + (j : Int)).toNat = i.toNat + j by omega]
      · rw [if_neg (by omega)]
        exact e t (by omega)
  refine vc_X11_copy_0 i n h hS hd (fun y1 y2 y3 g' => y1 = i ∧ y2 = n ∧ y3 = ((0 : Nat) : Int) ∧ g' = h ∧ (0 ≤ i ∧ i ≤ gI h 344 200 ∧ 0 ≤ n ∧ n ≤ 32 ∧ i + n ≤ gI h 344 200)) ?_ (sp_size hS (qI_i ⟨hS, sp_in hS (fun r er => qI_i ⟨hS, fun c => kB (by omega), fun c => sp_in hS (fun r2 er2 => qI_i ⟨hS, fun c2 => kB (by omega), fun c2 => ⟨by omega, sp_size hS (qI_i ⟨hS, fun c3 _ => ⟨rfl, rfl, rfl, rfl, by omega⟩, fun c3 => kB (by omega)⟩)⟩⟩)⟩)⟩))
  rintro _ _ _ _ ⟨q0, q1, q2, q3, q4⟩
  rw [q0, q1, q2, q3]
  exact loop n.toNat 0 h (by omega) q4 hS zF4.rf (fun t ht => absurd ht (by omega))
theorem sp_X11_mark (hd : 1 ≤ d) (hS : zSh h) (h8 : mdOk h 344 0) (k : ∀ h', zSh h' → zF4 mMk h h' → kM h' = bM h → kmOk h' → Q (some (vI ((bM h).length : Nat))) h') : wpN G d M_X11_mark 0 (zar 0 [vR 343]) [] h Q := by
  have w1 : 0 ≤ gI h 344 200 := h8.1.1
  have w2 : gI h 344 200 ≤ 200 := h8.1.2
  rw [bM_len h8] at k
  have loop : ∀ (m j : Nat) (g : zHp), (j : Int) + m = gI h 344 200 → zSh g → zF4 mMk h g → (∀ t : Nat, t < j → gI g 349 t = gI h 344 t) → wpN G d M_X11_mark 2 [(0, vR 343), (1, vI (j : Int))] [] g Q := by
    intro m
    induction m with
    | zero =>
      intro j g hj s F e
      have e4 : ∀ t, gI g 344 t = gI h 344 t := fun t => F.I _ _ (by rintro (⟨a, b⟩ | b) <;> omega)
      refine vc_X11_mark_2 j g s hd (fun _ _ => False) (fun _ _ q => q.elim) (sp_size s (qI_i ⟨s, fun c => sp_size s (qI_i ⟨s, fun h2 e2 => ?_⟩), fun c => by rw [e4] at c; omega⟩))
      have F2 : zF4 mMk h h2 := by rw [e2]; exact F.tr (zF4.sI (Or.inl ⟨rfl, rfl⟩))
      have e8 : gI h2 343 10 = gI h 344 200 := by rw [e2, gI_sI, if_pos ⟨rfl, rfl⟩, e4]
      rw [e8]
      refine k h2 (F2.Sh hS) F2 ?_ ⟨by omega, by omega⟩
      unfold kM
      rw [e8, bM_def]
      refine lst_eq rfl (fun t ht => ?_)
      rw [e2, gI_sI, if_neg (by omega)]
      exact e t (by omega)
    | succ m ih =>
      intro j g hj s F e
      have e4 : ∀ t, gI g 344 t = gI h 344 t := fun t => F.I _ _ (by rintro (⟨a, b⟩ | b) <;> omega)
      refine vc_X11_mark_2 j g s hd (fun y1 g' => y1 = ((j + 1 : Nat) : Int) ∧ g' = sI g 349 j (gI g 344 j)) ?_ (sp_size s (qI_i ⟨s, fun c => by rw [e4] at c; omega, fun c => ⟨by omega, by omega, fun h4 q4 => ⟨by omega, fun x ex _ => ⟨by omega, q4⟩⟩⟩⟩))
      rintro _ _ ⟨q0, q1⟩
      rw [q0, q1]
      refine ih (j + 1) _ (by omega) s (F.tr (zF4.sI (Or.inr rfl))) (fun t ht => ?_)
      rw [gI_sI]
      by_cases q : t = j
      · rw [if_pos ⟨rfl, q⟩, e4, q]
      · rw [if_neg (by omega)]
        exact e t (by omega)
  refine vc_X11_mark_0 h hS hd (fun y1 g' => y1 = ((0 : Nat) : Int) ∧ g' = h) ?_ (fun _ => ⟨rfl, rfl⟩)
  rintro _ _ ⟨q0, q1⟩
  rw [q0, q1]
  exact loop (gI h 344 200).toNat 0 h (by omega) hS zF4.rf (fun t ht => absurd ht (by omega))
end MS2
