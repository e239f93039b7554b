/-! documents of the model -/
def mOv (h : zHp) (a o : Nat) : List (Int × Int) := (List.range 4).map (fun k => if gI h a (o + 201 + 3 * k) = 1 then (gI h a (o + 202 + 3 * k), gI h a (o + 203 + 3 * k)) else (-1, 0))
def mv (h : zHp) (a o : Nat) : List Int × List (Int × Int) := (lst (fun j => gI h a (o + j)) (gI h a (o + 200)), mOv h a o)
def mdOk (h : zHp) (a o : Nat) : Prop := (0 ≤ gI h a (o + 200) ∧ gI h a (o + 200) ≤ 200) ∧ (∀ j : Nat, j < 200 → 0 ≤ gI h a (o + j) ∧ gI h a (o + j) ≤ 255) ∧
  ∀ k : Nat, k < 4 → gI h a (o + 201 + 3 * k) = 1 → (0 ≤ gI h a (o + 202 + 3 * k) ∧ gI h a (o + 202 + 3 * k) ≤ 3) ∧ 0 ≤ gI h a (o + 203 + 3 * k) ∧ gI h a (o + 203 + 3 * k) ≤ gI h a (o + 200)
theorem mv_eq {h h' : zHp} {a o a' o' : Nat} (e : ∀ j : Nat, j < 213 → gI h' a' (o' + j) = gI h a (o + j)) : mv h' a' o' = mv h a o ∨ 200 < gI h a (o + 200) := by
  by_cases q : 200 < gI h a (o + 200)
  · exact Or.inr q
  · refine Or.inl ?_
    unfold mv mOv
    rw [lst_eq (e 200 (by omega)) (fun j hj => e j (by have := e 200 (by omega); omega))]
    congr 1
    refine List.map_congr_left (fun k hk => ?_)
    have hk := List.mem_range.mp hk
    have e1 := e (201 + 3 * k) (by omega)
    have e2 := e (202 + 3 * k) (by omega)
    have e3 := e (203 + 3 * k) (by omega)
    simp only [← Nat.add_assoc] at e1 e2 e3
    rw [e1, e2, e3]
theorem mv_cp {h h' : zHp} {a o a' o' : Nat} (k : mdOk h a o) (e : ∀ j : Nat, j < 213 → gI h' a' (o' + j) = gI h a (o + j)) : mv h' a' o' = mv h a o := by
  rcases mv_eq e with q | q
  · exact q
  · have := k.1.2; omega
theorem mdOk_cp {h h' : zHp} {a o a' o' : Nat} (k : mdOk h a o) (e : ∀ j : Nat, j < 213 → gI h' a' (o' + j) = gI h a (o + j)) : mdOk h' a' o' := by
  obtain ⟨k1, k2, k3⟩ := k
  have e0 := e 200 (by omega)
  refine ⟨by rw [e0]; exact k1, fun j hj => by rw [e j (by omega)]; exact k2 j hj, fun m hm q => ?_⟩
  have e1 := e (201 + 3 * m) (by omega)
  have e2 := e (202 + 3 * m) (by omega)
  have e3 := e (203 + 3 * m) (by omega)
  simp only [← Nat.add_assoc] at e1 e2 e3
  rw [e1] at q
  rw [e0, e2, e3]
  exact k3 m hm q
/-- the bytes, the mark and the clipboard of the model -/
def bM (h : zHp) : List Int := (mv h 344 0).1
def kM (h : zHp) : List Int := lst (gI h 349) (gI h 343 10)
def cM (h : zHp) : List Int := lst (gI h 348) (gI h 343 8)
theorem bM_def {h : zHp} : bM h = lst (gI h 344) (gI h 344 200) := by
  unfold bM mv
  exact lst_eq rfl (fun j _ => by rw [Nat.zero_add])
theorem bM_len {h : zHp} (k : mdOk h 344 0) : ((bM h).length : Int) = gI h 344 200 := by
  have : 0 ≤ gI h 344 200 := k.1.1
  rw [bM_def, lst_len]; omega
theorem bM_tg {h : zHp} {i : Int} (h0 : 0 ≤ i) (h1 : i < gI h 344 200) : tg (bM h) i.toNat = gI h 344 i.toNat := by rw [bM_def, lst_tg h0 h1]
theorem bM_tgn {h : zHp} {i : Nat} (h1 : (i : Int) < gI h 344 200) : tg (bM h) i = gI h 344 i := bM_tg (i := (i : Int)) (by omega) h1
theorem kM_len {h : zHp} (h0 : 0 ≤ gI h 343 10) : ((kM h).length : Int) = gI h 343 10 := by unfold kM; rw [lst_len]; omega
theorem kM_tgn {h : zHp} {i : Nat} (h1 : (i : Int) < gI h 343 10) : tg (kM h) i = gI h 349 i := by
  have := lst_tg (f := gI h 349) (n := gI h 343 10) (i := (i : Int)) (by omega) h1
  exact this
def kmOk (h : zHp) : Prop := 0 ≤ gI h 343 10 ∧ gI h 343 10 ≤ 200
theorem zF4_mv {P : Nat → Nat → Prop} {h h' : zHp} {a o : Nat} (F : zF4 P h h') (hp : ∀ j, ¬ P a j) : ∀ j : Nat, j < 213 → gI h' a (o + j) = gI h a (o + j) := fun j _ => F.I _ _ (hp _)
section MS
variable {G : zG} {d : Nat} {Q : Option zV → zHp → Prop} {h : zHp}
theorem sp_X11_length (hd : 1 ≤ d) (hS : zSh h) (h8 : mdOk h 344 0) (k : Q (some (vI ((bM h).length : Nat))) h) : wpN G d M_X11_length 0 (zar 0 [vR 343]) [] h Q := by
  rw [bM_len h8] at k
  exact vc_X11_length_0 h hS hd (sp_size hS (qI_i ⟨hS, k⟩))
theorem sp_X11_byteAt {i : Int} (hd : 1 ≤ d) (hS : zSh h) (h8 : mdOk h 344 0) (k : ∀ r, r = (if 0 ≤ i ∧ i < (bM h).length then tg (bM h) i.toNat else -1001) → Q (some (vI r)) h) : wpN G d M_X11_byteAt 0 (zar 0 [vR 343, vI i]) [] h Q := by
  have w1 : 0 ≤ gI h 344 200 := h8.1.1
  have w2 : gI h 344 200 ≤ 200 := h8.1.2
  rw [bM_len h8] at k
  refine vc_X11_byteAt_0 i h hS hd (sp_size hS (qI_i ⟨hS, by omega, sp_in hS (fun r er => qI_i ⟨hS, fun c => k _ ?_, fun c => ⟨by omega, k _ ?_⟩⟩)⟩))
  · rw [if_neg (by omega)]
  · rw [if_pos (by omega), bM_tg (by omega) (by omega)]
theorem sp_X11_follow {p : Int} (hS : zSh h) (hp : p = 0 ∨ p = 1) (hf : gI h 343 6 = 0 ∨ gI h 343 6 = 1) (k : ∀ h', zSh h' → zF4 (fun b j => b = 343 ∧ j = 6) h h' → gI h' 343 6 = p → Q (some (vI (gI h 343 6))) h') : wpN G d M_X11_follow 0 (zar 0 [vR 343, vI p]) [] h Q := by
  refine vc_X11_follow_0 p h hS (Nat.zero_le _) ⟨fun c => ⟨hp, fun h2 e2 => ?_⟩, fun c => ⟨hp, fun h2 e2 => ?_⟩⟩
  · have := k h2 (by rw [e2]; exact hS) (by rw [e2]; exact zF4.sI ⟨rfl, rfl⟩) (by rw [e2, gI_sI, if_pos ⟨rfl, rfl⟩])
    rw [c] at this; exact this
  · have := k h2 (by rw [e2]; exact hS) (by rw [e2]; exact zF4.sI ⟨rfl, rfl⟩) (by rw [e2, gI_sI, if_pos ⟨rfl, rfl⟩])
    rw [show gI h 343 6 = 1 by omega] at this; exact this
def mTy : Nat → Nat → Prop := fun b j => (b = 343 ∧ j = 12) ∨ b = 350
theorem sp_X11_clearText (hS : zSh h) (ho : mtOk h) (k : ∀ h', zSh h' → zF4 mTy h h' → tM h' = [] → mtOk h' → Q (some (vI ((tM h).length : Nat))) h') : wpN G d M_X11_clearText 0 (zar 0 [vR 343]) [] h Q := by
  have hl := tM_len ho.1
  refine vc_X11_clearText_0 h hS (Nat.zero_le _) (fun x1 e1 h3 e3 => ?_)
  have e2 : gI h3 343 12 = 0 := by rw [e3, gI_sI, if_pos ⟨rfl, rfl⟩]
  rw [e1, ← hl]
  exact k h3 (by rw [e3]; exact hS) (by rw [e3]; exact zF4.sI (Or.inl ⟨rfl, rfl⟩)) (by unfold tM; rw [e2]; rfl) ⟨by omega, by omega⟩
theorem sp_X11_type {l : Int} (hd : 1 ≤ d) (hS : zSh h) (ho : mtOk h) (kB : ¬ (0 ≤ l ∧ l ≤ 127) → Q (some (vI (-1001))) h) (kF : (0 ≤ l ∧ l ≤ 127) → (tM h).length = 120 → Q (some (vI (-1003))) h) (k : ∀ h', (0 ≤ l ∧ l ≤ 127) → (tM h).length < 120 → zSh h' → zF4 mTy h h' → tM h' = tM h ++ [l] → mtOk h' → Q (some (vI ((tM h).length + 1))) h') : wpN G d M_X11_type 0 (zar 0 [vR 343, vI l]) [] h Q := by
  obtain ⟨z1, z2⟩ := ho
  have hl := tM_len z1
  refine vc_X11_type_0 l h hS hd (sp_in hS (fun r er => qI_i ⟨hS, fun c => ⟨fun c1 => ⟨by omega, fun h7 e7 => ?_⟩, fun c1 => kF (by omega) (by omega)⟩, fun c => kB (by omega)⟩))
  have a7 : gI h7 343 12 = gI h 343 12 := by rw [e7, gI_sI, if_neg (by omega)]
  refine ⟨by omega, fun h9 e9 => ?_⟩
  have e1 : gI h9 343 12 = gI h 343 12 + 1 := by rw [e9, gI_sI, if_pos ⟨rfl, rfl⟩, a7]
  have e2 : ∀ j : Nat, gI h9 350 j = if (j : Int) = gI h 343 12 then l else gI h 350 j := by
    intro j
    rw [e9, gI_sI, if_neg (by omega), e7, gI_sI]
    by_cases q : (j : Int) = gI h 343 12
    · rw [if_pos ⟨rfl, by omega⟩, if_pos q]
    · rw [if_neg (by omega), if_neg q]
  have F : zF4 mTy h h9 := by rw [e9, e7]; exact (zF4.sI (Or.inr rfl)).tr (zF4.sI (Or.inl ⟨rfl, rfl⟩))
  rw [e1, ← hl]
  refine k h9 (by omega) (by omega) (F.Sh hS) F ?_ ⟨by omega, by omega⟩
  apply List.ext_getElem?
  intro j
  by_cases q : (j : Int) < gI h 343 12
  · rw [List.getElem?_append_left (by omega)]
    unfold tM
    rw [lst_get (by omega), lst_get q, e2, if_neg (by omega)]
  · by_cases q2 : (j : Int) = gI h 343 12
    · rw [List.getElem?_append_right (by omega), show j - (tM h).length = 0 by omega]
      unfold tM
      rw [lst_get (by omega), e2, if_pos q2]
      rfl
    · rw [List.getElem?_eq_none (by unfold tM; rw [lst_len]; omega), List.getElem?_eq_none (by simp; omega)]
/-- what matchesAt answers -/
theorem sp_X11_matchesAt {i : Nat} {ps : List (Int × Int)} (hd : 1 ≤ d) (hS : zSh h) (h8 : mdOk h 344 0) (hP : mP h ps) (hi : i ≤ 1000) (k : ∀ r, (r = 0 ∨ r = 1) → (r = 1 ↔ pFits ps (bM h) (i : Int)) → Q (some (vI r)) h) : wpN G d M_X11_matchesAt 0 (zar 0 [vR 343, vI (i : Int)]) [] h Q := by
  have hl := bM_len h8
  have w2 : gI h 344 200 ≤ 200 := h8.1.2
  obtain ⟨P1, P2, P3⟩ := hP
  have no : ∀ (y3 : Int), ¬ pFits ps (bM h) (i : Int) → wpN G d M_X11_matchesAt 21 [(0, vR 343), (1, vI (i : Int)), (2, vI 0), (3, vI y3)] [] h Q := by
    intro y3 hn
    have kk := k 0 (Or.inl rfl) ⟨fun q => by omega, fun q => absurd q hn⟩
    exact vc_X11_matchesAt_21 i 0 y3 h hS hd (fun _ _ _ _ => False) (fun _ _ _ _ q => q.elim) ⟨fun c => ⟨Or.inl rfl, kk⟩, fun c => ⟨fun _ => ⟨Or.inl rfl, kk⟩, fun q => absurd rfl q⟩⟩
  have loop : ∀ (n j : Nat), j + n = ps.length → (i : Int) + ps.length ≤ (bM h).length → (∀ m : Nat, m < j → pFit (ps.getD m (0, 0)) (tg (bM h) ((i : Int) + m).toNat)) → wpN G d M_X11_matchesAt 21 [(0, vR 343), (1, vI (i : Int)), (2, vI 1), (3, vI (j : Int))] [] h Q := by
    intro n
    induction n with
    | zero =>
      intro j hj hb ha
      refine vc_X11_matchesAt_21 i 1 j h hS hd (fun _ _ _ _ => False) (fun _ _ _ _ q => q.elim) ⟨fun c => ⟨Or.inr rfl, k 1 (Or.inr rfl) ⟨fun _ => ⟨hb, fun m hm => ha m (by omega)⟩, fun _ => rfl⟩⟩, fun c => by omega⟩
    | succ n ih =>
      intro j hj hb ha
      have hp3 := P3 j (by omega)
      have ht : tg (bM h) ((i : Int) + j).toNat = gI h 344 ((i : Int) + j).toNat := bM_tg (by omega) (by omega)
      have hby := h8.2.1 ((i : Int) + j).toNat (by omega)
      rw [Nat.zero_add] at hby
      have ed : (gI h 344 ((i : Int) + j).toNat).tdiv 16 = gI h 344 ((i : Int) + j).toNat / 16 := Int.tdiv_eq_ediv_of_nonneg hby.1
      have em : (gI h 344 ((i : Int) + j).toNat).tmod 16 = gI h 344 ((i : Int) + j).toNat % 16 := Int.tmod_eq_emod_of_nonneg hby.1
      have g1 : gI h 353 (2 * (j : Int)).toNat = (ps.getD j (0, 0)).1 := by rw [show (2 * (j : Int)).toNat = 2 * j by omega]; exact hp3.1
      have g2 : gI h 353 (2 * (j : Int) + 1).toNat = (ps.getD j (0, 0)).2 := by rw [show (2 * (j : Int) + 1).toNat = 2 * j + 1 by omega]; exact hp3.2
      refine vc_X11_matchesAt_21 i 1 j h hS hd (fun y1 y2 y3 g => y1 = (i : Int) ∧ y3 = ((j + 1 : Nat) : Int) ∧ g = h ∧ ((y2 = 1 ∧ pFit (ps.getD j (0, 0)) (tg (bM h) ((i : Int) + j).toNat)) ∨ (y2 = 0 ∧ ¬ pFit (ps.getD j (0, 0)) (tg (bM h) ((i : Int) + j).toNat)))) ?_ ⟨fun c => by omega, fun c => ⟨fun q => by omega, fun _ => ⟨by omega, by omega, fun x3 e3 => ⟨by omega, by omega, fun x5 e5 => ⟨by omega, by omega, by omega, fun x7 e7 => ?_⟩⟩⟩⟩⟩
      · rintro _ _ _ _ ⟨q0, q1, q2, ⟨q3, q4⟩ | ⟨q3, q4⟩⟩
        · rw [q0, q1, q2, q3]
          refine ih (j + 1) (by omega) hb (fun m hm => ?_)
          by_cases w : m = j
          · rw [w]; exact q4
          · exact ha m (by omega)
        · rw [q0, q1, q2, q3]
          exact no _ (fun f => q4 (f.2 j (by omega)))
      · rw [g1] at e5
        rw [g2] at e7
        rw [e3, ed, em]
        rw [ht]
        unfold pFit
        rw [← e5, ← e7]
        refine ⟨fun c1 => ⟨fun c2 => ⟨by omega, fun x ex _ => ⟨rfl, by omega, rfl, Or.inl ⟨rfl, Or.inl c1, Or.inl c2⟩⟩⟩, fun c2 => ⟨fun c3 => ⟨by omega, fun x ex _ => ⟨rfl, by omega, rfl, Or.inr ⟨rfl, fun f => ?_⟩⟩⟩, fun c3 => ⟨by omega, fun x ex _ => ⟨rfl, by omega, rfl, Or.inl ⟨rfl, Or.inl c1, Or.inr c3⟩⟩⟩⟩⟩,
          fun c1 => ⟨fun c2 => ⟨by omega, fun x ex _ => ⟨rfl, by omega, rfl, Or.inr ⟨rfl, fun f => ?_⟩⟩⟩, fun c2 => ⟨fun c3 => ⟨by omega, fun x ex _ => ⟨rfl, by omega, rfl, Or.inl ⟨rfl, Or.inr c2, Or.inl c3⟩⟩⟩, fun c3 => ⟨fun c4 => ⟨by omega, fun x ex _ => ⟨rfl, by omega, rfl, Or.inr ⟨rfl, fun f => ?_⟩⟩⟩, fun c4 => ⟨by omega, fun x ex _ => ⟨rfl, by omega, rfl, Or.inl ⟨rfl, Or.inr c2, Or.inr c4⟩⟩⟩⟩⟩⟩⟩
        · rcases f.2 with w | w
          · exact c2 w
          · exact c3 w
        · rcases f.1 with w | w
          · exact c1 w
          · exact c2 w
        · rcases f.2 with w | w
          · exact c3 w
          · exact c4 w
  refine vc_X11_matchesAt_0 i h hS hd (fun y1 y2 y3 g => y1 = (i : Int) ∧ y3 = ((0 : Nat) : Int) ∧ g = h ∧ ((y2 = 1 ∧ (i : Int) + ps.length ≤ (bM h).length) ∨ (y2 = 0 ∧ ¬ ((i : Int) + ps.length ≤ (bM h).length)))) ?_ ⟨by omega, sp_size hS (qI_i ⟨hS, fun c _ => ⟨rfl, rfl, rfl, Or.inr ⟨rfl, by omega⟩⟩, fun c _ => ⟨rfl, rfl, rfl, Or.inl ⟨rfl, by omega⟩⟩⟩)⟩
  rintro _ _ _ _ ⟨q0, q1, q2, ⟨q3, q4⟩ | ⟨q3, q4⟩⟩
  · rw [q0, q1, q2, q3]
    exact loop ps.length 0 (by omega) q4 (fun m hm => absurd hm (by omega))
  · rw [q0, q1, q2, q3]
    exact no _ (fun f => q4 f.1)
end MS
