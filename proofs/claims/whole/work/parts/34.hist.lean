/-- nothing outside P has changed -/
def zF3 (P : Nat → Prop) (h h' : zHp) : Prop := ∀ b, ¬ P b → (∀ j, gI h' b j = gI h b j) ∧ (∀ j, gL h' b j = gL h b j) ∧ ∀ j, gR h' b j = gR h b j
theorem zF3.rf {P : Nat → Prop} {h : zHp} : zF3 P h h := fun _ _ => ⟨fun _ => rfl, fun _ => rfl, fun _ => rfl⟩
theorem zF3.tr {P : Nat → Prop} {h h1 h2 : zHp} (a : zF3 P h h1) (b : zF3 P h1 h2) : zF3 P h h2 := fun x hx => ⟨fun j => ((b x hx).1 j).trans ((a x hx).1 j), fun j => ((b x hx).2.1 j).trans ((a x hx).2.1 j), fun j => ((b x hx).2.2 j).trans ((a x hx).2.2 j)⟩
theorem zF3.mono {P P' : Nat → Prop} {h h' : zHp} (a : zF3 P h h') (hp : ∀ b, P b → P' b) : zF3 P' h h' := fun x hx => a x (fun q => hx (hp x q))
theorem zFr.f3 {P : Nat → Prop} {h h' : zHp} (a : zFr P h h') : zF3 P h h' := fun x hx => ⟨fun j => a.1 x j hx, fun j => a.2.1 x j, fun j => a.2.2 x j⟩
theorem zF3.sI {P : Nat → Prop} {h : zHp} {a j : Nat} {z : Int} (hp : P a) : zF3 P h (sI h a j z) := (zFr.sI hp).f3
theorem zF3.sR {P : Nat → Prop} {h : zHp} {a j r : Nat} (hp : P a) : zF3 P h (sR h a j r) :=
  fun b hb => ⟨fun _ => rfl, fun _ => rfl, fun k => by rw [gR_sR, if_neg (fun q => hb (by rw [q.1]; exact hp))]⟩
/-- the cells of the documents and of the history -/
def hI8 : Nat → Prop := fun b => 8 ≤ b ∧ b ≤ 79
def hKept (h : zHp) : List Int × List (Int × Int) := dv h (gR h 14 (gI h 13 2).toNat)
theorem doc_apart {a b c : Nat} (ha : zT 369 a = (102, 3)) (hb : zT 369 b = (102, 3)) (hab : a ≠ b) (hc : dIn a c) : ¬ dIn b c := by
  have pa := zdocs ha
  have pb := zdocs hb
  rintro ⟨q1, q2⟩
  obtain ⟨q3, q4⟩ := hc
  omega
theorem doc_hI8 {a c : Nat} (ha : zT 369 a = (102, 3)) (hc : dIn a c) : hI8 c := by
  have pa := zdocs ha
  obtain ⟨q3, q4⟩ := hc
  exact ⟨by omega, by omega⟩
theorem doc_13 {a : Nat} (ha : zT 369 a = (102, 3)) : ¬ dIn a 13 := by
  have pa := zdocs ha
  rintro ⟨q1, q2⟩
  omega
theorem zT_8 : zT 369 8 = (102, 3) := tT_8
/-- one document of the row, not among the past and the future, has changed -/
theorem hist_k {h h' : zHp} {k : Nat} (hk : k < 13) (ho : hOk h) (f : zFr (dIn (gR h 14 k)) h h') (hd : dOk h' (gR h 14 k)) :
    hOk h' ∧ dv h' 8 = dv h 8 ∧ gI h' 13 2 = gI h 13 2 ∧ gI h' 13 3 = gI h 13 3 ∧ (∀ i, gR h' 14 i = gR h 14 i) ∧ ∀ i, i < 13 → i ≠ k → dv h' (gR h 14 i) = dv h (gR h 14 i) := by
  obtain ⟨o1, o2, o3, o4⟩ := ho
  have e13 : ∀ j, gI h' 13 j = gI h 13 j := fun j => f.1 _ _ (doc_13 (o1 k hk).1)
  have e14 : ∀ i, gR h' 14 i = gR h 14 i := fun i => f.2.2 14 i
  have n8 : ∀ b, dIn 8 b → ¬ dIn (gR h 14 k) b := fun b hb => doc_apart zT_8 (o1 k hk).1 (fun e => (o1 k hk).2.1 e.symm) hb
  have ni : ∀ i, i < 13 → i ≠ k → ∀ b, dIn (gR h 14 i) b → ¬ dIn (gR h 14 k) b := fun i hi hik b hb => doc_apart (o1 i hi).1 (o1 k hk).1 (fun e => hik (o2 i k hi hk e)) hb
  refine ⟨⟨fun i hi => ?_, fun i j hi hj e => o2 i j hi hj (by rw [← e14 i, ← e14 j]; exact e), dOk_fr f n8 o3, by rw [e13, e13]; exact o4⟩, dv_fr 8 f n8, e13 2, e13 3, e14, fun i hi hik => dv_fr _ f (ni i hi hik)⟩
  rw [e14 i]
  refine ⟨(o1 i hi).1, (o1 i hi).2.1, ?_⟩
  by_cases q : i = k
  · rw [q]; exact hd
  · exact dOk_fr f (ni i hi q) (o1 i hi).2.2
theorem hPast_eq {h h' : zHp} (e2 : gI h' 13 2 = gI h 13 2) (e : ∀ i : Nat, (i : Int) < gI h 13 2 → dv h' (gR h' 14 i) = dv h (gR h 14 i)) : hPast h' = hPast h := by
  unfold hPast
  rw [e2]
  exact List.map_congr_left (fun i hi => e i (by have := List.mem_range.mp hi; omega))
theorem hFut_eq {h h' : zHp} (e2 : gI h' 13 2 = gI h 13 2) (e3 : gI h' 13 3 = gI h 13 3) (e : ∀ i : Nat, gI h 13 2 < i → (i : Int) ≤ gI h 13 3 → dv h' (gR h' 14 i) = dv h (gR h 14 i)) (h0 : 0 ≤ gI h 13 2) : hFut h' = hFut h := by
  unfold hFut
  rw [e2, e3]
  exact List.map_congr_left (fun i hi => e _ (by have := List.mem_range.mp hi; omega) (by have := List.mem_range.mp hi; omega))
section HIST
variable {G : zG} {d : Nat} {Q : Option zV → zHp → Prop} {h : zHp}
theorem sp_X4_keep (hd : 3 ≤ d) (hS : zSh h) (ho : hOk h)
    (k : ∀ h', zSh h' → zF3 hI8 h h' → hOk h' → hPast h' = hPast h → hFut h' = hFut h → dv h' 8 = dv h 8 → hKept h' = dv h 8 → gI h' 13 2 = gI h 13 2 → gI h' 13 3 = gI h 13 3 → Q none h') : wpN G d M_X4_keep 0 (zar 0 [vR 13]) [] h Q := by
  have oo := ho
  obtain ⟨o1, o2, o3, o4, o5, o6⟩ := ho
  have hn : (gI h 13 2).toNat < 13 := by omega
  obtain ⟨t1, t2, t3⟩ := o1 _ hn
  refine vc_X4_keep_0 h hS hd ⟨⟨by omega, by omega⟩, t1, sp_X2_become (by omega) t1 zT_8 t2 hS t3 o3 (fun h' s f e hd' => qV_i ⟨s, ?_⟩)⟩
  obtain ⟨r1, r2, r3, r4, r5, r6⟩ := hist_k hn oo f hd'
  refine k h' s (f.f3.mono (fun b hb => doc_hI8 t1 hb)) r1 (hPast_eq r3 (fun i hi => ?_)) (hFut_eq r3 r4 (fun i hi1 hi2 => ?_) o4) r2 ?_ r3 r4
  · rw [r5]; exact r6 i (by omega) (by omega)
  · rw [r5]; exact r6 i (by omega) (by omega)
  · unfold hKept; rw [r3, r5]; exact e
theorem sp_X4_takeBack (hd : 3 ≤ d) (hS : zSh h) (ho : hOk h)
    (k : ∀ h', zSh h' → zF3 hI8 h h' → hOk h' → hPast h' = hPast h → hFut h' = hFut h → dv h' 8 = hKept h → hKept h' = hKept h → gI h' 13 2 = gI h 13 2 → gI h' 13 3 = gI h 13 3 → (∀ i, i < 13 → dv h' (gR h' 14 i) = dv h (gR h 14 i)) → Q none h') : wpN G d M_X4_takeBack 0 (zar 0 [vR 13]) [] h Q := by
  obtain ⟨o1, o2, o3, o4, o5, o6⟩ := ho
  have hn : (gI h 13 2).toNat < 13 := by omega
  obtain ⟨t1, t2, t3⟩ := o1 _ hn
  refine vc_X4_takeBack_0 h hS hd ⟨⟨by omega, by omega⟩, t1, sp_X2_become (by omega) zT_8 t1 (fun e => t2 e.symm) hS o3 t3 (fun h' s f e hd' => qV_i ⟨s, ?_⟩)⟩
  have e13 : ∀ j, gI h' 13 j = gI h 13 j := fun j => f.1 _ _ (doc_13 zT_8)
  have e14 : ∀ i, gR h' 14 i = gR h 14 i := fun i => f.2.2 14 i
  have ni : ∀ i, i < 13 → ∀ b, dIn (gR h 14 i) b → ¬ dIn 8 b := fun i hi b hb => doc_apart (o1 i hi).1 zT_8 (o1 i hi).2.1 hb
  have nv : ∀ i, i < 13 → dv h' (gR h' 14 i) = dv h (gR h 14 i) := fun i hi => by rw [e14]; exact dv_fr _ f (ni i hi)
  refine k h' s (f.f3.mono (fun b hb => doc_hI8 zT_8 hb)) ⟨fun i hi => ?_, fun i j hi hj q => o2 i j hi hj (by rw [← e14 i, ← e14 j]; exact q), hd', by rw [e13]; exact o4, by rw [e13, e13]; exact o5, by rw [e13]; exact o6⟩ (hPast_eq (e13 2) (fun i hi => nv i (by omega))) (hFut_eq (e13 2) (e13 3) (fun i hi1 hi2 => nv i (by omega)) o4) e ?_ (e13 2) (e13 3) nv
  · rw [e14 i]
    exact ⟨(o1 i hi).1, (o1 i hi).2.1, dOk_fr f (ni i hi) (o1 i hi).2.2⟩
  · unfold hKept; rw [e13]; exact nv _ hn
theorem sp_X4_dropOldest (hS : zSh h) (ho : ∀ i : Nat, i < 13 → zT 369 (gR h 14 i) = (102, 3))
    (k : ∀ h', zSh h' → zF3 (fun b => b = 14) h h' → (∀ j, gI h' 14 j = gI h 14 j) → (∀ i, i < 12 → gR h' 14 i = gR h 14 (i + 1)) → gR h' 14 12 = gR h 14 0 → Q none h') : wpN G d M_X4_dropOldest 0 (zar 0 [vR 13]) [] h Q := by
  have loop : ∀ (n j : Nat) (g : zHp), j + n = 12 → zSh g → zF3 (fun b => b = 14) h g → (∀ i, gI g 14 i = gI h 14 i) → (∀ i, i < 13 → gR g 14 i = if i < j then gR h 14 (i + 1) else gR h 14 i) → wpN G d M_X4_dropOldest 9 [(0, vR 13), (1, vR (gR h 14 0)), (2, vI (j : Int))] [] g Q := by
    intro n
    induction n with
    | zero =>
      intro j g hj s f e0 e
      have ej : j = 12 := by omega
      rw [ej] at e
      refine vc_X4_dropOldest_9 _ (ho 0 (by omega)) j g s (Nat.zero_le _) (fun _ _ _ => False) (fun _ _ _ q => q.elim) ⟨fun c h2 e2 => ?_, fun c => by omega⟩
      rw [e2]
      refine k _ (zSh_pu_14 rfl s) (f.tr (zF3.sR rfl)) e0 (fun i hi => ?_) ?_
      · rw [gR_sR, if_neg (by omega), e i (by omega), if_pos hi]
      · rw [gR_sR, if_pos ⟨rfl, rfl⟩]
    | succ n ih =>
      intro j g hj s f e0 e
      refine vc_X4_dropOldest_9 _ (ho 0 (by omega)) j g s (Nat.zero_le _) (fun y1 y2 h' => y1 = gR h 14 0 ∧ y2 = ((j + 1 : Nat) : Int) ∧ h' = sR g 14 j (gR g 14 (j + 1))) ?_ ⟨fun c => by omega, fun c => ⟨by omega, ⟨by omega, by omega⟩, ?_, ⟨by omega, by omega⟩, fun h4 e4 => ⟨by omega, fun x ex _ => ⟨rfl, by omega, ?_⟩⟩⟩⟩
      · rintro _ _ _ ⟨q0, q1, q2⟩
        rw [q0, q1, q2]
        refine ih (j + 1) _ (by omega) (zSh_pu_14 rfl s) (f.tr (zF3.sR rfl)) e0 (fun i hi => ?_)
        by_cases eo : i = j
        · rw [eo, gR_sR, if_pos ⟨rfl, rfl⟩, if_pos (by omega), e (j + 1) (by omega), if_neg (by omega)]
        · rw [gR_sR, if_neg (by omega), e i hi]
          by_cases q : i < j
          · rw [if_pos q, if_pos (by omega)]
          · rw [if_neg q, if_neg (by omega)]
      · rw [show ((j : Int) + 1).toNat = j + 1 by omega, e (j + 1) (by omega), if_neg (by omega)]
        exact ho (j + 1) (by omega)
      · rw [e4, show ((j : Int) + 1).toNat = j + 1 by omega, show (j : Int).toNat = j by omega]
  refine vc_X4_dropOldest_0 h hS (Nat.zero_le _) (fun y1 y2 h' => y1 = gR h 14 0 ∧ y2 = 0 ∧ h' = h) ?_ ⟨ho 0 (by omega), fun _ => ⟨rfl, rfl, rfl⟩⟩
  rintro _ _ _ ⟨q0, q1, q2⟩
  rw [q0, q1, q2]
  exact loop 12 0 h rfl hS zF3.rf (fun _ => rfl) (fun i hi => by rw [if_neg (by omega)])
def trim12 (l : List (List Int × List (Int × Int))) : List (List Int × List (Int × Int)) := if 12 < l.length then l.drop 1 else l
theorem dv_f3 {P : Nat → Prop} {h h' : zHp} (a : Nat) (f : zF3 P h h') (hp : ∀ b, dIn a b → ¬ P b) : dv h' a = dv h a :=
  dv_eq ((f _ (hp _ ⟨by omega, by omega⟩)).1 _) (fun _ _ => (f _ (hp _ ⟨by omega, by omega⟩)).1 _) (fun _ _ => ⟨(f _ (hp _ ⟨by omega, by omega⟩)).1 _, (f _ (hp _ ⟨by omega, by omega⟩)).1 _⟩)
theorem dOk_f3 {P : Nat → Prop} {h h' : zHp} {a : Nat} (f : zF3 P h h') (hp : ∀ b, dIn a b → ¬ P b) (k : dOk h a) : dOk h' a := by
  have e1 : ∀ j, gI h' (a + 1) j = gI h (a + 1) j := fun j => (f _ (hp _ ⟨by omega, by omega⟩)).1 _
  have e2 : ∀ j, gI h' (a + 2) j = gI h (a + 2) j := fun j => (f _ (hp _ ⟨by omega, by omega⟩)).1 _
  have e3 : ∀ j, gI h' (a + 3) j = gI h (a + 3) j := fun j => (f _ (hp _ ⟨by omega, by omega⟩)).1 _
  have e4 : ∀ j, gI h' (a + 4) j = gI h (a + 4) j := fun j => (f _ (hp _ ⟨by omega, by omega⟩)).1 _
  unfold dOk
  simp only [e1, e2, e3, e4]
  exact k
def h34 : Nat → Prop := fun b => b = 13 ∨ b = 14
theorem doc_34 {a c : Nat} (ha : zT 369 a = (102, 3)) (hc : dIn a c) : ¬ h34 c := by
  have pa := zdocs ha
  obtain ⟨q3, q4⟩ := hc
  rintro (q | q) <;> omega
theorem hPast_len (h : zHp) : (hPast h).length = (gI h 13 2).toNat := by simp [hPast]
theorem sp_X4_commit (hd : 1 ≤ d) (hS : zSh h) (ho : hOk h)
    (k : ∀ h', zSh h' → zF3 hI8 h h' → hOk h' → hPast h' = trim12 (hPast h ++ [hKept h]) → hFut h' = [] → dv h' 8 = dv h 8 → Q none h') : wpN G d M_X4_commit 0 (zar 0 [vR 13]) [] h Q := by
  obtain ⟨o1, o2, o3, o4, o5, o6⟩ := ho
  have up : ∀ b, h34 b → hI8 b := fun b hb => by rcases hb with rfl | rfl <;> exact ⟨by omega, by omega⟩
  refine vc_X4_commit_0 h hS hd ⟨fun c => sp_X4_dropOldest hS (fun i hi => (o1 i hi).1) (fun h3 s f e0 e1 e2 => qV_i ⟨s, fun h6 e6 => ?_⟩), fun c => ⟨by omega, fun h8 e8 h10 e10 => ?_⟩⟩
  · have q13 : ∀ j, gI h3 13 j = gI h 13 j := fun j => (f 13 (by omega)).1 j
    have F : zF3 h34 h h6 := by rw [e6]; exact (f.mono (fun b hb => Or.inr hb)).tr (zF3.sI (Or.inl rfl))
    have n2 : gI h6 13 2 = 12 := by rw [e6, gI_sI, if_neg (by omega), q13]; omega
    have n3 : gI h6 13 3 = 12 := by rw [e6, gI_sI, if_pos ⟨rfl, rfl⟩, q13]; omega
    have r : ∀ i, gR h6 14 i = gR h3 14 i := fun i => by rw [e6]; rfl
    have T : ∀ i, i < 13 → ∃ j, j < 13 ∧ gR h6 14 i = gR h 14 j ∧ (i < 12 → j = i + 1) ∧ (i = 12 → j = 0) := by
      intro i hi
      by_cases q : i < 12
      · exact ⟨i + 1, by omega, by rw [r, e1 i q], fun _ => rfl, fun z => by omega⟩
      · exact ⟨0, by omega, by rw [r, show i = 12 by omega, e2], fun z => by omega, fun _ => rfl⟩
    refine k h6 (by rw [e6]; exact s) (F.mono up) ⟨fun i hi => ?_, fun i j hi hj q => ?_, dOk_f3 F (fun b hb => doc_34 zT_8 hb) o3, by omega, by omega, by omega⟩ ?_ ?_ (dv_f3 8 F (fun b hb => doc_34 zT_8 hb))
    · obtain ⟨j, hj, ej, -⟩ := T i hi
      rw [ej]
      exact ⟨(o1 j hj).1, (o1 j hj).2.1, dOk_f3 F (fun b hb => doc_34 (o1 j hj).1 hb) (o1 j hj).2.2⟩
    · obtain ⟨i', hi', ei, ei1, ei2⟩ := T i hi
      obtain ⟨j', hj', ej, ej1, ej2⟩ := T j hj
      have := o2 i' j' hi' hj' (by rw [← ei, ← ej]; exact q)
      omega
    · have hl : (hPast h).length = 12 := by rw [hPast_len]; omega
      unfold trim12
      rw [if_pos (by simp; omega)]
      apply List.ext_getElem?
      intro i
      rw [List.getElem?_drop]
      by_cases q : i < 12
      · rw [hPast, List.getElem?_map, List.getElem?_range (by omega)]
        obtain ⟨j, hj, ej, ej1, -⟩ := T i (by omega)
        have : j = i + 1 := ej1 q
        subst this
        show some (dv h6 (gR h6 14 i)) = _
        rw [ej, dv_f3 _ F (fun b hb => doc_34 (o1 _ hj).1 hb)]
        by_cases q2 : 1 + i < 12
        · rw [List.getElem?_append_left (by omega), hPast, List.getElem?_map, List.getElem?_range (by omega), show 1 + i = i + 1 by omega]
          rfl
        · rw [List.getElem?_append_right (by omega), hl, show 1 + i - 12 = 0 by omega]
          show _ = some (hKept h)
          unfold hKept
          rw [show (gI h 13 2).toNat = i + 1 by omega]
      · rw [List.getElem?_eq_none (by rw [hPast_len]; omega), List.getElem?_eq_none (by simp; omega)]
    · unfold hFut
      rw [n2, n3]
      rfl
  · have F : zF3 h34 h h10 := by rw [e10, e8]; exact (zF3.sI (Or.inl rfl)).tr (zF3.sI (Or.inl rfl))
    have m2 : gI h8 13 2 = gI h 13 2 + 1 := by rw [e8, gI_sI, if_pos ⟨rfl, rfl⟩]
    have n2 : gI h10 13 2 = gI h 13 2 + 1 := by rw [e10, gI_sI, if_neg (by omega)]; exact m2
    have n3 : gI h10 13 3 = gI h 13 2 + 1 := by rw [e10, gI_sI, if_pos ⟨rfl, rfl⟩]; exact m2
    have r : ∀ i, gR h10 14 i = gR h 14 i := fun i => by rw [e10, e8]; rfl
    refine k h10 (by rw [e10, e8]; exact hS) (F.mono up) ⟨fun i hi => ?_, fun i j hi hj q => o2 i j hi hj (by rw [← r i, ← r j]; exact q), dOk_f3 F (fun b hb => doc_34 zT_8 hb) o3, by omega, by omega, by omega⟩ ?_ ?_ (dv_f3 8 F (fun b hb => doc_34 zT_8 hb))
    · rw [r i]
      exact ⟨(o1 i hi).1, (o1 i hi).2.1, dOk_f3 F (fun b hb => doc_34 (o1 i hi).1 hb) (o1 i hi).2.2⟩
    · have hl := hPast_len h
      unfold trim12
      rw [if_neg (by simp; omega)]
      apply List.ext_getElem?
      intro i
      by_cases q : i < (gI h 13 2).toNat + 1
      · rw [hPast, List.getElem?_map, List.getElem?_range (by omega)]
        show some (dv h10 (gR h10 14 i)) = _
        rw [r i, dv_f3 _ F (fun b hb => doc_34 (o1 i (by omega)).1 hb)]
        by_cases q2 : i < (gI h 13 2).toNat
        · rw [List.getElem?_append_left (by omega), hPast, List.getElem?_map, List.getElem?_range (by omega)]
          rfl
        · rw [List.getElem?_append_right (by omega), hl, show i - (gI h 13 2).toNat = 0 by omega, show i = (gI h 13 2).toNat by omega]
          rfl
      · rw [List.getElem?_eq_none (by rw [hPast_len]; omega), List.getElem?_eq_none (by simp; omega)]
    · unfold hFut
      rw [n2, n3, show gI h 13 2 + 1 - (gI h 13 2 + 1) = 0 by omega]
      rfl
end HIST
