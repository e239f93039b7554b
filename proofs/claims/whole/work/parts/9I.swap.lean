/-! draft and template change places -/
theorem zshp_1_10 : zshp 1 10 = 0 := by decide +kernel
theorem XS_swap {h g : zHp} {s : zSt} {t : Nat} {T : List (List Int)} (ht : t < 4) (x : XS h s) (r : xT h (gR h 1 10) = T) (ok : tOk T) (n0 : 0 ≤ gI h (gR h 1 10) 1) (eg : g = sI (sR (sR h 80 t (gR h 1 10)) 1 10 (gR h 80 t)) 2 1 0) : XS g (setT s t T) ∧ xcF h g := by
  obtain ⟨⟨xS, x1, ⟨x2, x3⟩, ⟨x4, x5⟩, ⟨x6, x7⟩, x8, x9, x10, x11, x12⟩, xh⟩ := x
  have eI : ∀ b j, b ≠ 2 → gI g b j = gI h b j := fun b j hb => by rw [eg, gI_sI, if_neg (fun w => hb w.1), gI_sR, gI_sR]
  have e21 : gI g 2 1 = 0 := by rw [eg, gI_sI, if_pos ⟨rfl, rfl⟩]
  have eR : ∀ b j, ¬ (b = 80 ∧ j = t) → ¬ (b = 1 ∧ j = 10) → gR g b j = gR h b j := fun b j h1 h2 => by rw [eg, gR_sI, gR_sR, if_neg h2, gR_sR, if_neg h1]
  have e80 : gR g 80 t = gR h 1 10 := by rw [eg, gR_sI, gR_sR, if_neg (by omega), gR_sR, if_pos ⟨rfl, rfl⟩]
  have e10 : gR g 1 10 = gR h 80 t := by rw [eg, gR_sI, gR_sR, if_pos ⟨rfl, rfl⟩]
  have F3 : zF3 (fun b => b = 1 ∨ b = 2 ∨ b = 80) h g := fun b hb => ⟨fun j => eI b j (fun w => hb (Or.inr (Or.inl w))), fun j => by rw [eg]; rfl, fun j => eR b j (fun w => hb (Or.inr (Or.inr w.1))) (fun w => hb (Or.inl w.1))⟩
  have sg : zSh g := fun a j hz => by
    rw [eR a j (fun w => hz (by rw [w.1, w.2]; exact zshp_80 t)) (fun w => hz (by rw [w.1, w.2]; exact zshp_1_10))]
    exact xS a j hz
  have eT : ∀ c, zT 369 c = (108, 2) → xT g c = xT h c := fun c hc => by
    have lc := ztmp hc
    unfold xT
    rw [eI c 1 (by omega)]
    exact List.map_congr_left (fun i _ => List.map_congr_left (fun f _ => eI _ f (by omega)))
  have lt := ztmp (x9 t ht).1
  have la := ztmp x10
  have c := reg_F F3 (a := 4) (b := 5) (by omega) (by omega) x5
  have m := reg_F F3 (a := 6) (b := 7) (by omega) (by omega) x7
  refine ⟨⟨⟨sg, ⟨fun c hc => (by cases hc), x1.2⟩, ⟨?_, ?_⟩, ⟨c.1.trans x4, c.2⟩, ⟨m.1.trans x6, m.2⟩, (eI 1 11 (by omega)).trans x8, fun u hu => ?_, ?_, fun u hu => ?_, fun u v hu hv n => ?_⟩, (XH_F F3 (fun b h1 h2 w => by omega) xh).1⟩, xcF_3 F3 (fun b hb w => by omega)⟩
  · show lst (gI g 3) (gI g 2 1) = []
    rw [e21]; rfl
  · unfold rOk; rw [e21]; exact ⟨Int.le_refl 0, Int.le_trans x3.1 x3.2⟩
  · show zT 369 (gR g 80 u) = (108, 2) ∧ xT g (gR g 80 u) = (if u = t then T else sTs s u) ∧ tOk (if u = t then T else sTs s u)
    by_cases q : u = t
    · rw [if_pos q, q, e80]
      exact ⟨x10, by rw [eT _ x10]; exact r, ok⟩
    · rw [if_neg q, eR 80 u (fun w => q w.2) (by omega)]
      exact ⟨(x9 u hu).1, by rw [eT _ (x9 u hu).1]; exact (x9 u hu).2.1, (x9 u hu).2.2⟩
  · rw [e10]; exact (x9 t ht).1
  · rw [e10]
    by_cases q : u = t
    · rw [q, e80]
      exact ⟨fun w => (x11 t ht).1 w.symm, by rw [eI _ 1 (by omega)]; exact n0⟩
    · have lu := ztmp (x9 u hu).1
      rw [eR 80 u (fun w => q w.2) (by omega)]
      exact ⟨x12 u t hu ht q, by rw [eI _ 1 (by omega)]; exact (x11 u hu).2⟩
  · by_cases q : u = t
    · rw [q, e80, eR 80 v (fun w => n (by omega)) (by omega)]
      exact fun w => (x11 v hv).1 w.symm
    · by_cases q2 : v = t
      · rw [q2, e80, eR 80 u (fun w => q w.2) (by omega)]
        exact (x11 u hu).1
      · rw [eR 80 u (fun w => q w.2) (by omega), eR 80 v (fun w => q2 w.2) (by omega)]
        exact x12 u v hu hv n
