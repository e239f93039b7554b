def byB (l : List Int) : Prop := ∀ c ∈ l, 0 ≤ c ∧ c ≤ 255
theorem tg_byB {l : List Int} (hb : byB l) {i : Nat} (hi : i < l.length) : 0 ≤ tg l i ∧ tg l i ≤ 255 := by
  unfold tg
  rw [List.getD_eq_getElem?_getD, List.getElem?_eq_getElem hi]
  exact hb _ (List.getElem_mem hi)
theorem lst_mem {f : Nat → Int} {n c : Int} (hc : c ∈ lst f n) : ∃ j : Nat, (j : Int) < n ∧ c = f j := by
  unfold lst at hc
  obtain ⟨j, hj, e⟩ := List.mem_map.mp hc
  exact ⟨j, by have := List.mem_range.mp hj; omega, e.symm⟩
theorem byB_bM {h : zHp} (k : mdOk h 344 0) : byB (bM h) := by
  rw [bM_def]
  intro c hc
  obtain ⟨j, hj, e⟩ := lst_mem hc
  have := k.2.1 j (by have : gI h 344 200 ≤ 200 := k.1.2; omega)
  rw [Nat.zero_add] at this
  rw [e]
  exact this
def mEd : Nat → Nat → Prop := fun b _ => b = 369
section MS3
variable {G : zG} {d : Nat} {Q : Option zV → zHp → Prop} {h : zHp}
theorem sp_X11_difference {i : Int} (hd : 1 ≤ d) (hS : zSh h) (h8 : mdOk h 344 0) (h6 : kmOk h) (hb : byB (kM h)) (k : Q (some (vI (rDiff (bM h) (kM h) i))) h) : wpN G d M_X11_difference 0 (zar 0 [vR 343, vI i]) [] h Q := by
  have hl := bM_len h8
  have w1 : 0 ≤ gI h 344 200 := h8.1.1
  have w2 : gI h 344 200 ≤ 200 := h8.1.2
  have v1 : 0 ≤ gI h 343 10 := h6.1
  have v2 : gI h 343 10 ≤ 200 := h6.2
  have hk := kM_len v1
  have bb := byB_bM h8
  have loop : ∀ (n p : Nat) (z : Int), z = (min (bM h).length (kM h).length : Nat) → (max (bM h).length (kM h).length) < p + n → 0 ≤ i → i ≤ 200 → i ≤ p → ((p : Int) = i ∨ p ≤ min (bM h).length (kM h).length) → fndB (fun p => decide (tg (bM h) p ≠ tg (kM h) p)) (max (bM h).length (kM h).length) n p = rDiff (bM h) (kM h) i → wpN G d M_X11_difference 30 [(0, vR 343), (1, vI i), (2, vI z), (3, vI (p : Int))] [] h Q := by
    intro n
    induction n with
    | zero =>
      intro p z ez hn i0 i1 hp hc e
      rw [fndB] at e
      rw [← e] at k
      refine vc_X11_difference_30 i z p h hS hd (fun _ _ _ _ => False) (fun _ _ _ _ q => q.elim) ⟨fun c => sp_size hS (qI_i ⟨hS, by omega, by omega, fun x6 e6 => ⟨fun c1 => ⟨fun c2 => k, fun c2 => by omega⟩, fun c1 => ⟨fun c2 => k, fun c2 => by omega⟩⟩⟩), fun c => by omega⟩
    | succ n ih =>
      intro p z ez hn i0 i1 hp hc e
      rw [fndB] at e
      refine vc_X11_difference_30 i z p h hS hd (fun y1 y2 y3 g' => y1 = i ∧ y2 = z ∧ y3 = ((p + 1 : Nat) : Int) ∧ g' = h ∧ p + 1 ≤ min (bM h).length (kM h).length ∧ fndB (fun p => decide (tg (bM h) p ≠ tg (kM h) p)) (max (bM h).length (kM h).length) n (p + 1) = rDiff (bM h) (kM h) i) ?_ ⟨fun c => ?_, fun c => ?_⟩
      · rintro _ _ _ _ ⟨q0, q1, q2, q3, q4, q5⟩
        rw [q0, q1, q2, q3]
        exact ih (p + 1) z ez (by omega) i0 i1 (by omega) (Or.inr q4) q5
      · have hend : ∀ m : Int, m = (max (bM h).length (kM h).length : Nat) → (m ≤ p → Q (some (vI (-1009))) h) ∧ ((p : Int) < m → Q (some (vI (p : Int))) h) := by
          intro m em
          refine ⟨fun q => ?_, fun q => ?_⟩
          · rw [if_pos (by omega)] at e
            rw [← e] at k
            exact k
          · have ne : tg (bM h) p ≠ tg (kM h) p := by
              by_cases w : p < (bM h).length
              · have a1 := tg_byB bb w
                have a2 := tg_out (t := kM h) (i := p) (by omega)
                omega
              · have a1 := tg_byB hb (i := p) (by omega)
                have a2 := tg_out (t := bM h) (i := p) (by omega)
                omega
            rw [if_neg (by omega), if_pos (by simpa using ne)] at e
            rw [← e] at k
            exact k
        refine sp_size hS (qI_i ⟨hS, by omega, by omega, fun x6 e6 => ⟨fun c1 => ?_, fun c1 => ?_⟩⟩)
        · rw [show i = (p : Int) by omega]
          exact hend x6 (by omega)
        · rw [show z = (p : Int) by omega]
          exact hend x6 (by omega)
      · rw [if_neg (by omega)] at e
        have a1 := bM_tgn (h := h) (i := p) (by omega)
        have a2 := kM_tgn (h := h) (i := p) (by omega)
        refine ⟨by omega, by omega, fun c1 => ⟨by omega, fun x ex _ => ⟨rfl, rfl, by omega, rfl, by omega, ?_⟩⟩, fun c1 => ?_⟩
        · rw [show (p : Int).toNat = p by omega] at c1
          rw [if_neg (by simp; omega)] at e
          exact e
        · rw [show (p : Int).toNat = p by omega] at c1
          rw [if_pos (by simp; omega)] at e
          rw [e]; exact k
  refine vc_X11_difference_0 i h hS hd (fun y1 y2 y3 g' => y1 = i ∧ y2 = ((min (bM h).length (kM h).length : Nat) : Int) ∧ y3 = ((i.toNat : Nat) : Int) ∧ g' = h ∧ 0 ≤ i ∧ i ≤ 200) ?_ (sp_in hS (fun r er => qI_i ⟨hS, fun c => sp_size hS (qI_i ⟨hS, sp_less hS (fun r2 er2 => qI_i ⟨hS, fun _ => ⟨rfl, by omega, by omega, rfl, by omega, by omega⟩⟩)⟩), fun c => ?_⟩))
  · rintro _ _ _ _ ⟨q0, q1, q2, q3, q4, q5⟩
    rw [q0, q1, q2, q3]
    refine loop (max (bM h).length (kM h).length + 1) i.toNat _ rfl (by omega) q4 q5 (by omega) (Or.inl (by omega)) ?_
    unfold rDiff
    rw [if_pos ⟨q4, q5⟩]
  · unfold rDiff at k
    rw [if_neg (by omega)] at k
    exact k
theorem sp_X11_distance (hd : 1 ≤ d) (hS : zSh h) (h8 : mdOk h 344 0) (h6 : kmOk h) (k : ∀ h', zSh h' → zF4 mEd h h' → Q (some (vI (rDist (bM h) (kM h)))) h') : wpN G d M_X11_distance 0 (zar 0 [vR 343]) [] h Q := by
  have hl := bM_len h8
  have w1 : 0 ≤ gI h 344 200 := h8.1.1
  have w2 : gI h 344 200 ≤ 200 := h8.1.2
  have v1 : 0 ≤ gI h 343 10 := h6.1
  have v2 : gI h 343 10 ≤ 200 := h6.2
  have hk := kM_len v1
  have nE : ∀ b j, b ≠ 369 → ¬ mEd b j := fun b j q e => q e
  have loop2 : ∀ (n r : Nat) (g : zHp), r + n = (kM h).length → zSh g → zF4 mEd h g → (∀ c : Nat, c ≤ (bM h).length → gI g 369 c = ed (kM h) (bM h) r c) → wpN G d M_X11_distance 25 [(0, vR 343), (1, vI ((r : Int) + 1))] [] g Q := by
    intro n
    induction n with
    | zero =>
      intro r g hr s F e
      have f1 := F.I 343 10 (nE _ _ (by omega))
      have f2 := F.I 344 200 (nE _ _ (by omega))
      refine vc_X11_distance_25 _ g s hd (fun _ _ _ _ => False) (fun _ _ _ _ q => q.elim) ⟨fun c => sp_size s (qI_i ⟨s, by omega, ?_⟩), fun c => by omega⟩
      have := k g s F
      unfold rDist at this
      rw [f2, ← hl, show ((((bM h).length : Nat) : Int)).toNat = (bM h).length by omega, e _ (Nat.le_refl _), show r = (kM h).length by omega]
      exact this
    | succ n ih =>
      intro r g hr s F e
      have f1 := F.I 343 10 (nE _ _ (by omega))
      have z0 : ed (kM h) (bM h) r 0 = (r : Int) := by cases r <;> rfl
      have z1 : ed (kM h) (bM h) (r + 1) 0 = (r : Int) + 1 := rfl
      have inner : ∀ (m c : Nat) (g : zHp), c + m = (bM h).length → zSh g → zF4 mEd h g → (∀ j : Nat, j ≤ (bM h).length → gI g 369 j = if j ≤ c then ed (kM h) (bM h) (r + 1) j else ed (kM h) (bM h) r j) → wpN G d M_X11_distance 49 [(0, vR 343), (1, vI ((r : Int) + 1)), (2, vI (ed (kM h) (bM h) r c)), (3, vI ((c : Int) + 1))] [] g Q := by
        intro m
        induction m with
        | zero =>
          intro c g hc s F e
          have f2 := F.I 344 200 (nE _ _ (by omega))
          refine vc_X11_distance_49 _ _ _ g s hd (fun y1 g' => y1 = ((r + 1 : Nat) : Int) + 1 ∧ g' = g) ?_ (fun _ _ _ _ => False) (fun _ _ _ _ q => q.elim) (sp_size s (qI_i ⟨s, fun q => ⟨by omega, fun x ex _ => ⟨by omega, rfl⟩⟩, fun q => by omega⟩))
          rintro _ _ ⟨q0, q1⟩
          rw [q0, q1]
          exact ih (r + 1) g (by omega) s F (fun j hj => by rw [e j hj, if_pos (by omega)])
        | succ m ihm =>
          intro c g hc s F e
          have f2 := F.I 344 200 (nE _ _ (by omega))
          have b1 := ed_bd (kM h) (bM h) r c
          have b2 := ed_bd (kM h) (bM h) r (c + 1)
          have b3 := ed_bd (kM h) (bM h) (r + 1) c
          have e5 : gI g 369 ((c : Int) + 1).toNat = ed (kM h) (bM h) r (c + 1) := by
            rw [show ((c : Int) + 1).toNat = c + 1 by omega, e (c + 1) (by omega), if_neg (by omega)]
          have e6 : gI g 369 ((c : Int) + 1 - 1).toNat = ed (kM h) (bM h) (r + 1) c := by
            rw [show ((c : Int) + 1 - 1).toNat = c by omega, e c (by omega), if_pos (by omega)]
          have em : gI g 349 ((r : Int) + 1 - 1).toNat = tg (kM h) r := by
            rw [show ((r : Int) + 1 - 1).toNat = r by omega, F.I _ _ (nE _ _ (by omega)), kM_tgn (by omega)]
          have eb : gI g 344 ((c : Int) + 1 - 1).toNat = tg (bM h) c := by
            rw [show ((c : Int) + 1 - 1).toNat = c by omega, F.I _ _ (nE _ _ (by omega)), bM_tgn (by omega)]
          have step : ed (kM h) (bM h) (r + 1) (c + 1) = mn (ed (kM h) (bM h) r c + (if tg (kM h) r = tg (bM h) c then 0 else 1)) (mn (ed (kM h) (bM h) r (c + 1)) (ed (kM h) (bM h) (r + 1) c) + 1) := rfl
          have fin : ∀ (z : Int) (g' : zHp), z = ed (kM h) (bM h) (r + 1) (c + 1) → g' = sI g 369 (c + 1) z → zSh g' ∧ zF4 mEd h g' ∧ ∀ j : Nat, j ≤ (bM h).length → gI g' 369 j = if j ≤ c + 1 then ed (kM h) (bM h) (r + 1) j else ed (kM h) (bM h) r j := by
            intro z g' ez eg
            refine ⟨by rw [eg]; exact s, by rw [eg]; exact F.tr (zF4.sI rfl), fun j hj => ?_⟩
            rw [eg, gI_sI]
            by_cases q : j = c + 1
            · rw [if_pos ⟨rfl, q⟩, if_pos (by omega), ez, q]
            · rw [if_neg (by omega), e j hj]
              by_cases q2 : j ≤ c
              · rw [if_pos q2, if_pos (by omega)]
              · rw [if_neg q2, if_neg (by omega)]
          refine vc_X11_distance_49 _ _ _ g s hd (fun _ _ => False) (fun _ _ q => q.elim) (fun y1 y2 y3 g' => y1 = (r : Int) + 1 ∧ y2 = ed (kM h) (bM h) r (c + 1) ∧ y3 = ((c + 1 : Nat) : Int) + 1 ∧ g' = sI g 369 (c + 1) (ed (kM h) (bM h) (r + 1) (c + 1))) ?_ (sp_size s (qI_i ⟨s, fun q => by omega, fun q => ⟨by omega, by omega, by omega, by omega, ?_⟩⟩))
          · rintro _ _ _ g' ⟨q0, q1, q2, q3⟩
            obtain ⟨t1, t2, t3⟩ := fin _ g' rfl q3
            rw [q0, q1, q2]
            exact ihm (c + 1) g' (by omega) t1 t2 t3
          · rw [em, eb, e5, e6]
            refine ⟨fun ne => ⟨by omega, fun x9 e9 => ⟨by omega, fun x11 e11 => ⟨by omega, by omega, by omega, sp_less s (fun z13 e13 => qI_i ⟨s, by omega, sp_less s (fun z17 e17 => qI_i ⟨s, by omega, fun h21 e21 => ⟨by omega, fun x ex _ => ?_⟩⟩)⟩)⟩⟩⟩, fun eq => ⟨by omega, fun x9 e9 => ⟨by omega, fun x11 e11 => ⟨by omega, by omega, by omega, sp_less s (fun z13 e13 => qI_i ⟨s, by omega, sp_less s (fun z17 e17 => qI_i ⟨s, by omega, fun h21 e21 => ⟨by omega, fun x ex _ => ?_⟩⟩)⟩)⟩⟩⟩⟩
            · have ez : z17 = ed (kM h) (bM h) (r + 1) (c + 1) := by
                rw [step, if_neg ne]
                unfold mn
                split <;> split <;> omega
              exact ⟨rfl, e11, by omega, by rw [e21, ez, show ((c : Int) + 1).toNat = c + 1 by omega]⟩
            · have ez : z17 = ed (kM h) (bM h) (r + 1) (c + 1) := by
                rw [step, if_pos eq]
                unfold mn
                split <;> split <;> omega
              exact ⟨rfl, e11, by omega, by rw [e21, ez, show ((c : Int) + 1).toNat = c + 1 by omega]⟩
      refine vc_X11_distance_25 _ g s hd (fun y1 y2 y3 g' => y1 = (r : Int) + 1 ∧ y2 = ed (kM h) (bM h) r 0 ∧ y3 = ((0 : Nat) : Int) + 1 ∧ g' = sI g 369 0 ((r : Int) + 1)) ?_ ⟨fun c => by omega, fun c x6 e6 h8 e8 _ => ⟨rfl, by rw [e6, e 0 (by omega)], by omega, e8⟩⟩
      rintro _ _ _ g' ⟨q0, q1, q2, q3⟩
      rw [q0, q1, q2, q3]
      refine inner (bM h).length 0 _ (by omega) s (F.tr (zF4.sI rfl)) (fun j hj => ?_)
      rw [gI_sI]
      by_cases q : j = 0
      · rw [if_pos ⟨rfl, q⟩, if_pos (by omega), q, z1]
      · rw [if_neg (by omega), if_neg (by omega), e j hj]
  have loop1 : ∀ (n c : Nat) (g : zHp), c + n = (bM h).length + 1 → zSh g → zF4 mEd h g → (∀ j : Nat, j < c → gI g 369 j = (j : Int)) → wpN G d M_X11_distance 2 [(0, vR 343), (1, vI (c : Int))] [] g Q := by
    intro n
    induction n with
    | zero =>
      intro c g hc s F e
      have f2 := F.I 344 200 (nE _ _ (by omega))
      refine vc_X11_distance_2 _ g s hd (fun _ _ => False) (fun _ _ q => q.elim) (fun y1 g' => y1 = ((0 : Nat) : Int) + 1 ∧ g' = g) ?_ (sp_size s (qI_i ⟨s, fun q _ => ⟨by omega, rfl⟩, fun q => by omega⟩))
      rintro _ _ ⟨q0, q1⟩
      rw [q0, q1]
      exact loop2 (kM h).length 0 g (by omega) s F (fun j hj => by rw [e j (by omega)]; rfl)
    | succ n ih =>
      intro c g hc s F e
      have f2 := F.I 344 200 (nE _ _ (by omega))
      refine vc_X11_distance_2 _ g s hd (fun y1 g' => y1 = ((c + 1 : Nat) : Int) ∧ g' = sI g 369 c (c : Int)) ?_ (fun _ _ => False) (fun _ _ q => q.elim) (sp_size s (qI_i ⟨s, fun q => by omega, fun q => ⟨by omega, fun h2 e2 => ⟨by omega, fun x ex _ => ⟨by omega, by rw [e2, show (c : Int).toNat = c by omega]⟩⟩⟩⟩))
      rintro _ _ ⟨q0, q1⟩
      rw [q0, q1]
      refine ih (c + 1) _ (by omega) s (F.tr (zF4.sI rfl)) (fun j hj => ?_)
      rw [gI_sI]
      by_cases q : j = c
      · rw [if_pos ⟨rfl, q⟩, q]
      · rw [if_neg (by omega), e j (by omega)]
  refine vc_X11_distance_0 h hS hd (fun y1 g' => y1 = ((0 : Nat) : Int) ∧ g' = h) ?_ (fun _ => ⟨rfl, rfl⟩)
  rintro _ _ ⟨q0, q1⟩
  rw [q0, q1]
  exact loop1 ((bM h).length + 1) 0 h (by omega) hS zF4.rf (fun j hj => by omega)
end MS3
