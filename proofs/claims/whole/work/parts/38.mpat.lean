/-! frames by cell and slot -/
def zF4 (P : Nat → Nat → Prop) (h h' : zHp) : Prop := (∀ b j, ¬ P b j → gI h' b j = gI h b j ∧ gL h' b j = gL h b j) ∧ ∀ b j, gR h' b j = gR h b j
theorem zF4.rf {P : Nat → Nat → Prop} {h : zHp} : zF4 P h h := ⟨fun _ _ _ => ⟨rfl, rfl⟩, fun _ _ => rfl⟩
theorem zF4.tr {P : Nat → Nat → Prop} {h h1 h2 : zHp} (a : zF4 P h h1) (b : zF4 P h1 h2) : zF4 P h h2 := ⟨fun x j hx => ⟨(b.1 x j hx).1.trans (a.1 x j hx).1, (b.1 x j hx).2.trans (a.1 x j hx).2⟩, fun x j => (b.2 x j).trans (a.2 x j)⟩
theorem zF4.mono {P P' : Nat → Nat → Prop} {h h' : zHp} (a : zF4 P h h') (hp : ∀ b j, P b j → P' b j) : zF4 P' h h' := ⟨fun x j hx => a.1 x j (fun q => hx (hp x j q)), a.2⟩
theorem zF4.sI {P : Nat → Nat → Prop} {h : zHp} {a i : Nat} {z : Int} (hp : P a i) : zF4 P h (sI h a i z) :=
  ⟨fun b j hb => ⟨by rw [gI_sI, if_neg (fun q => hb (by rw [q.1, q.2]; exact hp))], rfl⟩, fun _ _ => rfl⟩
theorem zF4.sL {P : Nat → Nat → Prop} {h : zHp} {a i : Nat} {z : Int} (hp : P a i) : zF4 P h (sL h a i z) :=
  ⟨fun b j hb => ⟨rfl, by rw [gL_sL, if_neg (fun q => hb (by rw [q.1, q.2]; exact hp))]⟩, fun _ _ => rfl⟩
theorem zF4.Sh {P : Nat → Nat → Prop} {h h' : zHp} (a : zF4 P h h') (hS : zSh h) : zSh h' := fun x j hx => (a.2 x j).trans (hS x j hx)
theorem zF4.I {P : Nat → Nat → Prop} {h h' : zHp} (a : zF4 P h h') (b j : Nat) (hb : ¬ P b j) : gI h' b j = gI h b j := (a.1 b j hb).1
/-! patterns: the fuel doesn't matter -/
theorem pfS_fuel {t : List Int} : ∀ (n m i : Nat) (ps : List (Int × Int)), t.length ≤ i + n → t.length ≤ i + m → pfS t n i ps = pfS t m i ps
  | 0, 0, _, _, _, _ => rfl
  | 0, m + 1, i, ps, h1, _ => by
    rw [pfS, pfS, if_pos (show t.length ≤ i by omega)]
  | n + 1, 0, i, ps, _, h2 => by
    rw [pfS, pfS, if_pos (show t.length ≤ i by omega)]
  | n + 1, m + 1, i, ps, h1, h2 => by
    rw [pfS, pfS]
    rw [pfS_fuel n m (i + 1) ps (by omega) (by omega), pfS_fuel n m (i + 2) _ (by omega) (by omega)]
def pq (t : List Int) (i : Nat) (ps : List (Int × Int)) : Int × List (Int × Int) := pfS t t.length i ps
theorem pq_step {t : List Int} {i : Nat} {ps : List (Int × Int)} : pq t i ps = if t.length ≤ i then (if ps.length = 0 then (t.length : Int) else -1009, ps)
    else if tg t i = 32 then pq t (i + 1) ps
    else if 16 ≤ ps.length then ((i : Int), ps)
    else if pd (tg t i) = -1 then ((i : Int), ps)
    else if pd (tg t (i + 1)) = -1 then ((i : Int) + 1, ps)
    else pq t (i + 2) (ps ++ [(pd (tg t i), pd (tg t (i + 1)))]) := by
  unfold pq
  rw [pfS_fuel t.length (t.length + 1) i ps (by omega) (by omega), pfS]
/-- blanks skipped from i on -/
def sk (t : List Int) : Nat → Nat → Nat
  | 0, i => i
  | k + 1, i => if tg t i = 32 then sk t k (i + 1) else i
theorem tg_out {t : List Int} {i : Nat} (h : t.length ≤ i) : tg t i = -1 := by
  unfold tg
  rw [List.getD_eq_getElem?_getD, List.getElem?_eq_none h]
  rfl
def bl (t : List Int) (i : Nat) : Nat := sk t (t.length - i) i
theorem bl_step {t : List Int} {i : Nat} : bl t i = if tg t i = 32 then bl t (i + 1) else i := by
  unfold bl
  by_cases h : t.length ≤ i
  · rw [tg_out h, show t.length - i = 0 by omega, sk, if_neg (by omega)]
  · obtain ⟨k, hk⟩ : ∃ k, t.length - i = k + 1 := ⟨t.length - i - 1, by omega⟩
    rw [hk, sk, show t.length - (i + 1) = k by omega]
theorem sk_le {t : List Int} : ∀ (k i : Nat), i ≤ sk t k i ∧ sk t k i ≤ i + k
  | 0, i => ⟨Nat.le_refl _, Nat.le_refl _⟩
  | k + 1, i => by
    have := sk_le (t := t) k (i + 1)
    rw [sk]
    split <;> omega
theorem bl_le {t : List Int} {i : Nat} (h : i ≤ t.length) : i ≤ bl t i ∧ bl t i ≤ t.length := by
  have := sk_le (t := t) (t.length - i) i
  unfold bl
  omega
theorem bl_ge {t : List Int} {i : Nat} : i ≤ bl t i := (sk_le (t := t) (t.length - i) i).1
theorem bl_ne {t : List Int} : ∀ (n i : Nat), t.length ≤ i + n → tg t (bl t i) ≠ 32
  | 0, i, h => by
    rw [bl_step, if_neg (by rw [tg_out (by omega)]; omega), tg_out (by omega)]
    omega
  | n + 1, i, h => by
    rw [bl_step]
    split
    · exact bl_ne n (i + 1) (by omega)
    · assumption
theorem pq_bl {t : List Int} {ps : List (Int × Int)} : ∀ (n i : Nat), t.length ≤ i + n → pq t (bl t i) ps = pq t i ps
  | 0, i, h => by rw [bl_step, tg_out (by omega), if_neg (by omega)]
  | n + 1, i, h => by
    rw [bl_step]
    split
    · rename_i q
      rw [pq_bl n (i + 1) (by omega), pq_step (i := i), if_neg, if_pos q]
      intro hl
      rw [tg_out hl] at q
      omega
    · rfl
/-- the text of the model -/
def tM (h : zHp) : List Int := lst (gI h 350) (gI h 343 12)
theorem tM_len {h : zHp} (h0 : 0 ≤ gI h 343 12) : ((tM h).length : Int) = gI h 343 12 := by unfold tM; rw [lst_len]; omega
theorem tM_F4 {P : Nat → Nat → Prop} {h h' : zHp} (f : zF4 P h h') (h1 : ¬ P 343 12) (h2 : ∀ j, ¬ P 350 j) : tM h' = tM h := by
  unfold tM
  exact lst_eq (f.I _ _ h1) (fun j _ => f.I _ _ (h2 j))
def mtOk (h : zHp) : Prop := 0 ≤ gI h 343 12 ∧ gI h 343 12 ≤ 120
section MPAT
variable {G : zG} {d : Nat} {Q : Option zV → zHp → Prop} {h : zHp}
theorem sp_in {x y z : Int} (hS : zSh h) (k : ∀ r, (y ≤ x ∧ x ≤ z ∧ r = 1) ∨ (¬ (y ≤ x ∧ x ≤ z) ∧ r = 0) → Q (some (vI r)) h) : wpN G d M_X11_in 0 (zar 0 [vL x, vL y, vL z]) [] h Q :=
  vc_X11_in_0 x y z h hS (Nat.zero_le _) ⟨fun c => k _ (Or.inr ⟨by omega, rfl⟩), fun c => ⟨fun c2 => k _ (Or.inr ⟨by omega, rfl⟩), fun c2 => k _ (Or.inl ⟨c, c2, rfl⟩)⟩⟩
theorem sp_less {x y : Int} (hS : zSh h) (k : ∀ r, (r ≤ x ∧ r ≤ y ∧ (r = x ∨ r = y)) → Q (some (vI r)) h) : wpN G d M_X11_less 0 (zar 0 [vI x, vI y]) [] h Q :=
  vc_X11_less_0 x y h hS (Nat.zero_le _) ⟨fun c => k _ (by omega), fun c => k _ (by omega)⟩
theorem sp_size (hS : zSh h) (k : Q (some (vI (gI h 344 200))) h) : wpN G d M_X11_size 0 (zar 0 [vR 343]) [] h Q := vc_X11_size_0 h hS (Nat.zero_le _) k
theorem sp_next (hS : zSh h) (ho : mtOk h) (h0 : 0 ≤ gI h 343 15) (k : ∀ r, r = tg (tM h) (gI h 343 15).toNat → Q (some (vI r)) h) : wpN G d M_X11_next 0 (zar 0 [vR 343]) [] h Q := by
  obtain ⟨o1, o2⟩ := ho
  refine vc_X11_next_0 h hS (Nat.zero_le _) ⟨fun c => k _ ?_, fun c => ⟨⟨h0, by omega⟩, k _ ?_⟩⟩
  · unfold tM; rw [lst_tg' c]
  · unfold tM; rw [lst_tg h0 c]
def mAt : Nat → Nat → Prop := fun b j => b = 343 ∧ j = 15
theorem sp_blanks (hd : 1 ≤ d) (hS : zSh h) (ho : mtOk h) (h0 : 0 ≤ gI h 343 15) (h1 : gI h 343 15 ≤ 1000) (k : ∀ g, zSh g → zF4 mAt h g → gI g 343 15 = ((bl (tM h) (gI h 343 15).toNat : Nat) : Int) → Q none g) : wpN G d M_X11_blanks 0 (zar 0 [vR 343]) [] h Q := by
  have hl := tM_len ho.1
  have loop : ∀ (n i : Nat) (g : zHp), (tM h).length ≤ i + n → i ≤ 1000 → zSh g → zF4 mAt h g → gI g 343 15 = (i : Int) → bl (tM h) i = bl (tM h) (gI h 343 15).toNat → wpN G d M_X11_blanks 0 [(0, vR 343)] [] g Q := by
    intro n
    induction n with
    | zero =>
      intro i g hn hi s F e eb
      have o12 : gI g 343 12 = gI h 343 12 := F.I _ _ (by rintro ⟨a, b⟩; omega)
      have et : tM g = tM h := tM_F4 F (by rintro ⟨a, b⟩; omega) (by rintro j ⟨a, b⟩; omega)
      refine vc_X11_blanks_0 g s hd (fun _ => False) (fun _ q => q.elim) (sp_next s ⟨by rw [o12]; exact ho.1, by rw [o12]; exact ho.2⟩ (by omega) (fun r er => qI_i ⟨s, fun c => k g s F ?_, fun c => ?_⟩))
      · rw [e, ← eb, bl_step, tg_out (by omega), if_neg (by omega)]
      · rw [et, e, show (i : Int).toNat = i by omega, tg_out (by omega)] at er
        omega
    | succ n ih =>
      intro i g hn hi s F e eb
      have o12 : gI g 343 12 = gI h 343 12 := F.I _ _ (by rintro ⟨a, b⟩; omega)
      have et : tM g = tM h := tM_F4 F (by rintro ⟨a, b⟩; omega) (by rintro j ⟨a, b⟩; omega)
      refine vc_X11_blanks_0 g s hd (fun g' => ∃ i' : Nat, i' = i + 1 ∧ i' ≤ 1000 ∧ zSh g' ∧ zF4 mAt h g' ∧ gI g' 343 15 = (i' : Int) ∧ bl (tM h) i' = bl (tM h) (gI h 343 15).toNat) ?_ (sp_next s ⟨by rw [o12]; exact ho.1, by rw [o12]; exact ho.2⟩ (by omega) (fun r er => qI_i ⟨s, fun c => k g s F ?_, fun c => ⟨by omega, fun h6 e6 s6 => ?_⟩⟩))
      · rintro g' ⟨i', q0, q1, q2, q3, q4, q5⟩
        exact ih i' g' (by omega) q1 q2 q3 q4 q5
      · rw [et, e, show (i : Int).toNat = i by omega] at er
        rw [e, ← eb, bl_step, if_neg (by omega)]
      · rw [et, e, show (i : Int).toNat = i by omega] at er
        have hi2 : i < (tM h).length := by
          rcases Nat.lt_or_ge i (tM h).length with q | q
          · exact q
          · rw [tg_out q] at er; omega
        refine ⟨i + 1, rfl, ?_, s6, by rw [e6]; exact F.tr (zF4.sI ⟨rfl, rfl⟩), by rw [e6, gI_sI, if_pos ⟨rfl, rfl⟩, e]; omega, ?_⟩
        · have := ho.2
          omega
        · rw [← eb, bl_step (i := i), if_pos (by omega)]
  exact loop (tM h).length (gI h 343 15).toNat h (by omega) (by omega) hS zF4.rf (by omega) rfl
theorem sp_halfOf {c : Int} (hd : 1 ≤ d) (hS : zSh h) (hc : -1000 ≤ c ∧ c ≤ 1000) (k : ∀ r, r = pd c → Q (some (vI r)) h) : wpN G d M_X11_halfOf 0 (zar 0 [vI c]) [] h Q := by
  unfold pd at k
  refine vc_X11_halfOf_0 c h hS hd ⟨fun c1 => sp_in hS (fun r er => qI_i ⟨hS, fun c2 => sp_in hS (fun r2 er2 => qI_i ⟨hS, fun c3 => k _ ?_, fun c3 => ⟨by omega, by omega, k _ ?_⟩⟩), fun c2 => ⟨by omega, k _ ?_⟩⟩), fun c1 => k _ ?_⟩
  · rw [if_neg (by omega), if_neg (by omega), if_neg c1]
  · rw [if_neg (by omega), if_pos (by omega)]; omega
  · rw [if_pos (by omega)]
  · rw [if_neg (by omega), if_neg (by omega), if_pos c1]
/-- the model's row of halves holds these pairs -/
def mP (h : zHp) (ps : List (Int × Int)) : Prop := gI h 343 22 = ps.length ∧ ps.length ≤ 16 ∧ ∀ j : Nat, j < ps.length → gI h 353 (2 * j) = (ps.getD j (0, 0)).1 ∧ gI h 353 (2 * j + 1) = (ps.getD j (0, 0)).2
def mPt : Nat → Nat → Prop := fun b j => (b = 343 ∧ (j = 15 ∨ j = 22)) ∨ b = 353
def byT (t : List Int) : Prop := ∀ c ∈ t, 0 ≤ c ∧ c ≤ 127
theorem tg_rng {t : List Int} (ht : byT t) (i : Nat) : -1 ≤ tg t i ∧ tg t i ≤ 127 := by
  by_cases h : i < t.length
  · unfold tg
    rw [List.getD_eq_getElem?_getD, List.getElem?_eq_getElem h]
    have := ht _ (List.getElem_mem h)
    show -1 ≤ t[i] ∧ t[i] ≤ 127
    omega
  · rw [tg_out (by omega)]; omega
theorem sp_X11_patternFault (hd : 2 ≤ d) (hS : zSh h) (ho : mtOk h) (ht : byT (tM h)) (k : ∀ g, zSh g → zF4 mPt h g → mP g (pf (tM h)).2 → Q (some (vI (pf (tM h)).1)) g) : wpN G d M_X11_patternFault 0 (zar 0 [vR 343]) [] h Q := by
  have hl := tM_len ho.1
  have hlo : gI h 343 12 ≤ 120 := ho.2
  have nP12 : ¬ mPt 343 12 := by rintro (⟨a, b⟩ | b) <;> omega
  have nP350 : ∀ j, ¬ mPt 350 j := by rintro j (⟨a, b⟩ | b) <;> omega
  have up : ∀ b j, mAt b j → mPt b j := fun b j q => Or.inl ⟨q.1, Or.inl q.2⟩
  have loop : ∀ (n i : Nat) (ps : List (Int × Int)) (g : zHp), (tM h).length ≤ i + n → i ≤ (tM h).length + 2 → tg (tM h) i ≠ 32 → zSh g → zF4 mPt h g → gI g 343 15 = (i : Int) → mP g ps → pq (tM h) i ps = pf (tM h) → wpN G d M_X11_patternFault 14 [(0, vR 343)] [] g Q := by
    intro n
    induction n with
    | zero =>
      intro i ps g hn hi hb s F e P eq
      have o12 : gI g 343 12 = gI h 343 12 := F.I _ _ nP12
      rw [pq_step, if_pos (by omega)] at eq
      refine vc_X11_patternFault_14 g s hd (fun _ => False) (fun _ q => q.elim) ⟨fun c => ⟨fun c1 => ?_, fun c1 => ?_⟩, fun c => by omega⟩
      · have := k g s F (by rw [← eq]; exact P)
        rw [← eq, if_neg (by have := P.1; omega)] at this
        exact this
      · have := k g s F (by rw [← eq]; exact P)
        rw [← eq, if_pos (by have := P.1; omega)] at this
        rw [o12, ← hl]
        exact this
    | succ n ih =>
      intro i ps g hn hi hb s F e P eq
      have o12 : gI g 343 12 = gI h 343 12 := F.I _ _ nP12
      have og : mtOk g := ⟨by rw [o12]; exact ho.1, by rw [o12]; exact ho.2⟩
      have et : tM g = tM h := tM_F4 F nP12 nP350
      obtain ⟨P1, P2, P3⟩ := P
      have r1 := tg_rng ht i
      have r2 := tg_rng ht (i + 1)
      have q1 := pd_rng (tg (tM h) i)
      have q2 := pd_rng (tg (tM h) (i + 1))
      rw [pq_step] at eq
      refine vc_X11_patternFault_14 g s hd (fun g' => ∃ (i' : Nat) (ps' : List (Int × Int)), (tM h).length ≤ i' + n ∧ i' ≤ (tM h).length + 2 ∧ tg (tM h) i' ≠ 32 ∧ zSh g' ∧ zF4 mPt h g' ∧ gI g' 343 15 = (i' : Int) ∧ mP g' ps' ∧ pq (tM h) i' ps' = pf (tM h)) ?_ ⟨fun c => ⟨fun c1 => ?_, fun c1 => ?_⟩, fun c => ⟨fun c1 => ?_, fun c1 => ?_⟩⟩
      · rintro g' ⟨i', ps', w1, w2, w3, w4, w5, w6, w7, w8⟩
        exact ih i' ps' g' w1 w2 w3 w4 w5 w6 w7 w8
      · rw [if_pos (by omega)] at eq
        have := k g s F (by rw [← eq]; exact ⟨P1, P2, P3⟩)
        rw [← eq, if_neg (by omega)] at this
        exact this
      · rw [if_pos (by omega)] at eq
        have := k g s F (by rw [← eq]; exact ⟨P1, P2, P3⟩)
        rw [← eq, if_pos (by omega)] at this
        rw [o12, ← hl]
        exact this
      · rw [if_neg (by omega), if_neg hb, if_pos (by omega)] at eq
        have := k g s F (by rw [← eq]; exact ⟨P1, P2, P3⟩)
        rw [← eq] at this
        rw [e]
        exact this
      · rw [if_neg (by omega), if_neg hb, if_neg (by omega)] at eq
        refine sp_next s og (by omega) (fun c4 e4 => qI_i ⟨s, ?_⟩)
        rw [et, e, show (i : Int).toNat = i by omega] at e4
        refine sp_halfOf (by omega) s (by omega) (fun z8 e8 => qI_i ⟨s, fun n8 => ?_, fun n8 => ?_⟩)
        · rw [e4] at e8
          rw [if_neg (by omega)] at eq
          refine ⟨by omega, sp_next s og (by omega) (fun c13 e13 => qI_i ⟨s, sp_halfOf (by omega) s (by rw [e13, et, e, show (i : Int).toNat = i by omega]; omega) (fun z17 e17 => qI_i ⟨s, ⟨by omega, by omega⟩, fun h21 e21 => ?_⟩)⟩)⟩
          rw [et, e, show (i : Int).toNat = i by omega] at e13
          rw [e13, ← e8] at e17
          have a21 : gI h21 343 15 = (i : Int) := by rw [e21, gI_sI, if_neg (by omega)]; exact e
          refine ⟨by omega, fun h23 e23 => ?_⟩
          have F23 : zF4 mPt h h23 := by
            rw [e23, e21]
            exact F.tr ((zF4.sI (Or.inr rfl)).tr (zF4.sI (Or.inl ⟨rfl, Or.inl rfl⟩)))
          have s23 : zSh h23 := F23.Sh hS
          have o23 : gI h23 343 12 = gI h 343 12 := F23.I _ _ nP12
          have og23 : mtOk h23 := ⟨by rw [o23]; exact ho.1, by rw [o23]; exact ho.2⟩
          have et23 : tM h23 = tM h := tM_F4 F23 nP12 nP350
          have a23 : gI h23 343 15 = (i : Int) + 1 := by rw [e23, gI_sI, if_pos ⟨rfl, rfl⟩, a21]
          have p23 : gI h23 343 22 = ps.length := by rw [e23, gI_sI, if_neg (by omega), e21, gI_sI, if_neg (by omega)]; exact P1
          refine sp_next s23 og23 (by omega) (fun c25 e25 => qI_i ⟨s23, ?_⟩)
          rw [et23, a23, show ((i : Int) + 1).toNat = i + 1 by omega] at e25
          refine sp_halfOf (by omega) s23 (by omega) (fun z29 e29 => qI_i ⟨s23, fun n29 => ?_, fun n29 => ?_⟩)
          · rw [e25] at e29
            rw [if_neg (by omega)] at eq
            refine ⟨by omega, by omega, sp_next s23 og23 (by omega) (fun c34 e34 => qI_i ⟨s23, sp_halfOf (by omega) s23 (by rw [e34, et23, a23, show ((i : Int) + 1).toNat = i + 1 by omega]; omega) (fun z38 e38 => qI_i ⟨s23, ⟨by omega, by omega⟩, fun h42 e42 => ?_⟩)⟩)⟩
            rw [et23, a23, show ((i : Int) + 1).toNat = i + 1 by omega] at e34
            rw [e34, ← e29] at e38
            have a42 : gI h42 343 15 = (i : Int) + 1 := by rw [e42, gI_sI, if_neg (by omega)]; exact a23
            refine ⟨by omega, fun h44 e44 => ?_⟩
            have p44 : gI h44 343 22 = ps.length := by rw [e44, gI_sI, if_neg (by omega), e42, gI_sI, if_neg (by omega)]; exact p23
            refine ⟨by omega, fun h46 e46 => ?_⟩
            have F46 : zF4 mPt h h46 := by
              rw [e46, e44, e42]
              exact F23.tr (((zF4.sI (Or.inr rfl)).tr (zF4.sI (Or.inl ⟨rfl, Or.inl rfl⟩))).tr (zF4.sI (Or.inl ⟨rfl, Or.inr rfl⟩)))
            have s46 : zSh h46 := F46.Sh hS
            have o46 : gI h46 343 12 = gI h 343 12 := F46.I _ _ nP12
            have og46 : mtOk h46 := ⟨by rw [o46]; exact ho.1, by rw [o46]; exact ho.2⟩
            have et46 : tM h46 = tM h := tM_F4 F46 nP12 nP350
            have a46 : gI h46 343 15 = (i : Int) + 2 := by rw [e46, gI_sI, if_neg (by omega), e44, gI_sI, if_pos ⟨rfl, rfl⟩, a42]; omega
            have p46 : gI h46 343 22 = ps.length + 1 := by rw [e46, gI_sI, if_pos ⟨rfl, rfl⟩, p44]
            have b46 : ∀ j : Nat, gI h46 353 j = if j = 2 * ps.length + 1 then z38 else if j = 2 * ps.length then z17 else gI g 353 j := by
              intro j
              rw [e46, gI_sI, if_neg (by omega), e44, gI_sI, if_neg (by omega), e42, gI_sI, p23]
              by_cases w : j = 2 * ps.length + 1
              · rw [if_pos ⟨rfl, by omega⟩, if_pos w]
              · rw [if_neg (by omega), if_neg w, e23, gI_sI, if_neg (by omega), e21, gI_sI, P1]
                by_cases w2 : j = 2 * ps.length
                · rw [if_pos ⟨rfl, by omega⟩, if_pos w2]
                · rw [if_neg (by omega), if_neg w2]
            refine sp_blanks (by omega) s46 og46 (by omega) (by omega) (fun g' sg' Fg' eg' => qV_i ⟨sg', fun _ => ?_⟩)
            rw [et46, a46, show ((i : Int) + 2).toNat = i + 2 by omega] at eg'
            refine ⟨bl (tM h) (i + 2), ps ++ [(pd (tg (tM h) i), pd (tg (tM h) (i + 1)))], ?_, ?_, bl_ne (tM h).length _ (by omega), sg', F46.tr (Fg'.mono up), eg', ⟨?_, ?_, ?_⟩, ?_⟩
            · have := bl_ge (t := tM h) (i := i + 2)
              omega
            · by_cases w : i + 2 ≤ (tM h).length
              · have := bl_le w
                omega
              · rw [bl_step, tg_out (by omega), if_neg (by omega)]
                omega
            · rw [Fg'.I _ _ (by rintro ⟨w1, w2⟩; omega), p46]; simp
            · simp; omega
            · intro j hj
              simp only [List.length_append, List.length_cons, List.length_nil] at hj
              rw [Fg'.I _ _ (by rintro ⟨w1, w2⟩; omega), Fg'.I _ _ (by rintro ⟨w1, w2⟩; omega), b46, b46]
              by_cases w : j = ps.length
              · rw [if_neg (by omega), if_pos (by omega), if_pos (by omega), w]
                simp
                exact ⟨by omega, by omega⟩
              · rw [if_neg (by omega), if_neg (by omega), if_neg (by omega), if_neg (by omega), List.getD_eq_getElem?_getD, List.getElem?_append_left (by omega), ← List.getD_eq_getElem?_getD]
                exact P3 j (by omega)
            · rw [pq_bl (tM h).length _ (by omega)]
              exact eq
          · rw [e25] at e29
            rw [if_pos (by omega)] at eq
            have := k h23 s23 F23 (by
              rw [← eq]
              show mP h23 ps
              refine ⟨p23, P2, fun j hj => ?_⟩
              have b : ∀ m : Nat, m ≠ 2 * ps.length → gI h23 353 m = gI g 353 m := fun m hm => by rw [e23, gI_sI, if_neg (by omega), e21, gI_sI, P1, if_neg (by omega)]
              rw [b _ (by omega), b _ (by omega)]
              exact P3 j hj)
            rw [← eq] at this
            rw [a23]
            exact this
        · rw [e4] at e8
          rw [if_pos (by omega)] at eq
          have := k g s F (by rw [← eq]; exact ⟨P1, P2, P3⟩)
          rw [← eq] at this
          rw [e]
          exact this
  refine vc_X11_patternFault_0 h hS hd (fun g' => ∃ i' : Nat, i' ≤ (tM h).length ∧ tg (tM h) i' ≠ 32 ∧ zSh g' ∧ zF4 mPt h g' ∧ gI g' 343 15 = (i' : Int) ∧ mP g' [] ∧ pq (tM h) i' [] = pf (tM h)) ?_ (fun h1 e1 h3 e3 => ?_)
  · rintro g' ⟨i', w2, w3, w4, w5, w6, w7, w8⟩
    exact loop (tM h).length i' [] g' (by omega) (by omega) w3 w4 w5 w6 w7 w8
  · have F3 : zF4 mPt h h3 := by
      rw [e3, e1]
      exact (zF4.sI (Or.inl ⟨rfl, Or.inl rfl⟩)).tr (zF4.sI (Or.inl ⟨rfl, Or.inr rfl⟩))
    have s3 : zSh h3 := F3.Sh hS
    have o3 : gI h3 343 12 = gI h 343 12 := F3.I _ _ nP12
    have et3 : tM h3 = tM h := tM_F4 F3 nP12 nP350
    have a3 : gI h3 343 15 = 0 := by rw [e3, gI_sI, if_neg (by omega), e1, gI_sI, if_pos ⟨rfl, rfl⟩]
    refine sp_blanks (by omega) s3 ⟨by rw [o3]; exact ho.1, by rw [o3]; exact ho.2⟩ (by omega) (by omega) (fun g' sg' Fg' eg' => qV_i ⟨sg', fun _ => ?_⟩)
    rw [et3, a3, show (0 : Int).toNat = 0 from rfl] at eg'
    refine ⟨bl (tM h) 0, (bl_le (by omega)).2, bl_ne (tM h).length _ (by omega), sg', F3.tr (Fg'.mono up), eg', ⟨?_, by simp, fun j hj => absurd hj (by simp)⟩, ?_⟩
    · rw [Fg'.I _ _ (by rintro ⟨w1, w2⟩; omega), e3, gI_sI, if_pos ⟨rfl, rfl⟩]; rfl
    · rw [pq_bl (tM h).length _ (by omega)]
      rfl
end MPAT
