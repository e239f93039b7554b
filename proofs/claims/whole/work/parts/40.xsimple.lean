/-! the edit distance, row by row -/
def mn (a b : Int) : Int := if a ≤ b then a else b
def edRow (prev : Nat → Int) (x r : Int) (bs : List Int) : Nat → Int
  | 0 => r
  | c + 1 => mn (prev c + (if x = tg bs c then 0 else 1)) (mn (prev (c + 1)) (edRow prev x r bs c) + 1)
def ed (ms bs : List Int) : Nat → Nat → Int
  | 0 => fun c => (c : Int)
  | r + 1 => edRow (ed ms bs r) (tg ms r) ((r : Int) + 1) bs
theorem ed_bd (ms bs : List Int) : ∀ r c : Nat, 0 ≤ ed ms bs r c ∧ ed ms bs r c ≤ r + c
  | 0, c => by show 0 ≤ (c : Int) ∧ (c : Int) ≤ _; omega
  | r + 1, c => by
    have ih := ed_bd ms bs r
    show 0 ≤ edRow (ed ms bs r) (tg ms r) ((r : Int) + 1) bs c ∧ _
    induction c with
    | zero => show 0 ≤ (r : Int) + 1 ∧ (r : Int) + 1 ≤ _; omega
    | succ c ihc =>
      have h1 := ih c
      have h2 := ih (c + 1)
      have h3 : edRow (ed ms bs r) (tg ms r) ((r : Int) + 1) bs c ≤ ((r + 1 : Nat) : Int) + (c : Nat) := ihc.2
      have h4 : edRow (ed ms bs r) (tg ms r) ((r : Int) + 1) bs (c + 1) = mn (ed ms bs r c + (if tg ms r = tg bs c then 0 else 1)) (mn (ed ms bs r (c + 1)) (edRow (ed ms bs r) (tg ms r) ((r : Int) + 1) bs c) + 1) := rfl
      show 0 ≤ edRow (ed ms bs r) (tg ms r) ((r : Int) + 1) bs (c + 1) ∧ edRow (ed ms bs r) (tg ms r) ((r : Int) + 1) bs (c + 1) ≤ _
      rw [h4]
      unfold mn
      split <;> split <;> split <;> omega
def rDist (bs ms : List Int) : Int := ed ms bs ms.length bs.length
/-- the marked bytes of the class -/
def kX (h : zHp) : List Int := lst (gI h 7) (gI h 6 1)
def cX (h : zHp) : List Int := lst (gI h 5) (gI h 4 1)
theorem rGet_9 {h : zHp} {i : Int} (h0 : 0 ≤ i) : rGet h 9 i = tg (dv h 8).1 i.toNat := by
  show rGet h 9 i = tg (lst (gI h 10) (gI h 9 1)) i.toNat
  unfold rGet
  by_cases q : i < gI h 9 1
  · rw [if_pos ⟨h0, q⟩, lst_tg h0 q]
  · rw [if_neg (by omega), lst_tg' (by omega)]
theorem rGet_6 {h : zHp} {i : Int} (h0 : 0 ≤ i) : rGet h 6 i = tg (kX h) i.toNat := by
  unfold rGet kX
  by_cases q : i < gI h 6 1
  · rw [if_pos ⟨h0, q⟩, lst_tg h0 q]
  · rw [if_neg (by omega), lst_tg' (by omega)]
section XS2
variable {G : zG} {d : Nat} {Q : Option zV → zHp → Prop} {h : zHp}
theorem sp_X10_length (hS : zSh h) (h8 : dOk h 8) (k : Q (some (vI ((dv h 8).1.length : Nat))) h) : wpN G d M_X10_length 0 (zar 0 [vR 1]) [] h Q := by
  rw [dv8_len h8] at k
  exact vc_X10_length_0 h hS (Nat.zero_le _) k
theorem sp_X10_byteAt {i : Int} (hd : 1 ≤ d) (hS : zSh h) (h8 : dOk h 8) (k : ∀ r, r = (if 0 ≤ i ∧ i < (dv h 8).1.length then tg (dv h 8).1 i.toNat else -1001) → Q (some (vI r)) h) : wpN G d M_X10_byteAt 0 (zar 0 [vR 1, vI i]) [] h Q := by
  rw [dv8_len h8] at k
  refine vc_X10_byteAt_0 i h hS hd (sp_X0_has tT_9 hS (fun r er => qI_i ⟨hS, fun c => k _ ?_, fun c => sp_X0_get tT_9 hS h8.1.2 (fun r2 er2 => qI_i ⟨hS, k _ ?_⟩)⟩))
  · unfold rHas at er
    split at er
    · omega
    · rename_i q; rw [if_neg q]
  · unfold rHas at er
    split at er
    · rename_i q; rw [if_pos q, er2, rGet_9 q.1]
    · omega
/-- a stretch of bytes -/
def seg (bs : List Int) (i n : Int) : List Int := (bs.drop i.toNat).take n.toNat
theorem rBec_lst {h : zHp} {a b : Nat} {i n : Int} (hab : b + 1 ≠ a + 1) (h0 : 0 ≤ i) (h1 : 0 ≤ n) (h2 : i + n ≤ gI h b 1) : lst (gI (rBec h a b i n) (a + 1)) (gI (rBec h a b i n) a 1) = seg (lst (gI h (b + 1)) (gI h b 1)) i n ∧ gI (rBec h a b i n) a 1 = n := by
  have e1 : gI (rBec h a b i n) a 1 = n := by unfold rBec; rw [gI_sI, if_pos ⟨rfl, rfl⟩]
  refine ⟨?_, e1⟩
  rw [e1]
  apply List.ext_getElem?
  intro j
  unfold seg
  rw [List.getElem?_take, List.getElem?_drop]
  by_cases q : (j : Int) < n
  · rw [lst_get q, if_pos (by omega), lst_get (by omega)]
    unfold rBec
    rw [gI_sI, if_neg (by omega), cpI_at, if_pos ⟨by omega, by omega⟩]
    congr 2
  · rw [lst_none (by omega), if_neg (by omega)]
theorem sp_X10_copy {i n : Int} (hd : 2 ≤ d) (hS : zSh h) (h8 : dOk h 8) (kB : ¬ (0 ≤ i ∧ i ≤ (dv h 8).1.length ∧ 0 ≤ n ∧ n ≤ 32 ∧ i + n ≤ (dv h 8).1.length) → Q (some (vI (-1001))) h)
    (k : ∀ h', (0 ≤ i ∧ i ≤ (dv h 8).1.length ∧ 0 ≤ n ∧ n ≤ 32 ∧ i + n ≤ (dv h 8).1.length) → zSh h' → zF3 (fun b => b = 4 ∨ b = 5) h h' → cX h' = seg (dv h 8).1 i n → gI h' 4 1 = n → Q (some (vI n)) h') : wpN G d M_X10_copy 0 (zar 0 [vR 1, vI i, vI n]) [] h Q := by
  rw [dv8_len h8] at k kB
  have w1 : 0 ≤ gI h 9 1 := h8.1.1
  have w2 : gI h 9 1 ≤ 200 := h8.1.2
  refine vc_X10_copy_0 i n h hS hd (sp_X10_isWithin hS (fun r er => qI_i ⟨hS, fun c => kB (by omega), fun c => ⟨by omega, sp_min hS (fun r2 er2 => qI_i ⟨hS, sp_X10_isWithin hS (fun r3 er3 => qI_i ⟨hS, fun c3 => ?_, fun c3 => kB (by omega)⟩)⟩)⟩⟩))
  have e32 : zlen (4 + 1) = 32 := by decide +kernel
  refine sp_X0_become (by omega) tT_4 tT_9 hS ⟨w1, w2⟩ (by omega) (by omega) (by omega) (by omega) (qV_i ⟨hS, ?_⟩)
  obtain ⟨e1, e2⟩ := rBec_lst (h := h) (a := 4) (b := 9) (i := i) (n := n) (by omega) (by omega) (by omega) (by omega)
  exact k _ (by omega) hS ((zF3.mono ((zFr.cpI (P := fun b => b = 4 ∨ b = 5) (Or.inr rfl)).f3) (fun _ q => q)).tr (zF3.sI (Or.inl rfl))) e1 e2
theorem sp_X10_mark (hd : 2 ≤ d) (hS : zSh h) (h8 : dOk h 8) (k : ∀ h', zSh h' → zF3 (fun b => b = 6 ∨ b = 7) h h' → kX h' = (dv h 8).1 → rOk h' 6 → Q (some (vI ((dv h 8).1.length : Nat))) h') : wpN G d M_X10_mark 0 (zar 0 [vR 1]) [] h Q := by
  have hl := dv8_len h8
  have w1 : 0 ≤ gI h 9 1 := h8.1.1
  have w2 : gI h 9 1 ≤ 200 := h8.1.2
  have e200 : zlen (6 + 1) = 200 := by decide +kernel
  obtain ⟨e1, e2⟩ := rBec_lst (h := h) (a := 6) (b := 9) (i := 0) (n := gI h 9 1) (by omega) (by omega) w1 (by omega)
  refine vc_X10_mark_0 h hS hd (sp_X0_become (by omega) tT_6 tT_9 hS ⟨w1, w2⟩ (by omega) w1 (by omega) (by omega) (qV_i ⟨hS, ?_⟩))
  rw [hl] at k
  rw [e2]
  refine k _ hS (((zFr.cpI (P := fun b => b = 6 ∨ b = 7) (Or.inr rfl)).f3).tr (zF3.sI (Or.inl rfl))) ?_ ⟨by rw [e2]; exact w1, by rw [e2]; omega⟩
  unfold kX
  refine e1.trans ?_
  unfold seg
  rw [show (0 : Int).toNat = 0 from rfl, List.drop_zero, List.take_of_length_le (by rw [lst_len]; omega)]
  rfl
theorem sp_X10_follow {p : Int} (hS : zSh h) (hp : p = 0 ∨ p = 1) (hf : gI h 1 11 = 0 ∨ gI h 1 11 = 1) (k : ∀ h', zSh h' → zF3 (fun b => b = 1) h h' → (∀ j, gR h' 1 j = gR h 1 j) → gI h' 1 11 = p → Q (some (vI (gI h 1 11))) h') : wpN G d M_X10_follow 0 (zar 0 [vR 1, vI p]) [] h Q := by
  have kk := k (sI h 1 11 p) hS (zF3.sI rfl) (fun _ => rfl) (by rw [gI_sI, if_pos ⟨rfl, rfl⟩])
  refine vc_X10_follow_0 p h hS (Nat.zero_le _) ⟨fun c => ⟨hp, fun h2 e2 => ?_⟩, fun c => ⟨hp, fun h2 e2 => ?_⟩⟩
  · rw [c] at kk; rw [e2]; exact kk
  · rw [show gI h 1 11 = 1 by omega] at kk; rw [e2]; exact kk
theorem sp_X10_difference {i : Int} (hd : 1 ≤ d) (hS : zSh h) (h8 : dOk h 8) (h6 : rOk h 6) (k : Q (some (vI (rDiff (dv h 8).1 (kX h) i))) h) : wpN G d M_X10_difference 0 (zar 0 [vR 1, vI i]) [] h Q := by
  have hl := dv8_len h8
  have w1 : 0 ≤ gI h 9 1 := h8.1.1
  have w2 : gI h 9 1 ≤ 200 := h8.1.2
  have v1 : 0 ≤ gI h 6 1 := h6.1
  have v2 : gI h 6 1 ≤ 200 := h6.2
  have hk : ((kX h).length : Int) = gI h 6 1 := by unfold kX; rw [lst_len]; omega
  have loop : ∀ (n p : Nat) (z : Int), z = (max (dv h 8).1.length (kX h).length : Nat) → (max (dv h 8).1.length (kX h).length) < p + n → p ≤ 201 → fndB (fun p => decide (tg (dv h 8).1 p ≠ tg (kX h) p)) (max (dv h 8).1.length (kX h).length) n p = rDiff (dv h 8).1 (kX h) i → wpN G d M_X10_difference 38 [(0, vR 1), (1, vI i), (2, vI z), (3, vI (p : Int))] [] h Q := by
    intro n
    induction n with
    | zero =>
      intro p z ez hn hp e
      rw [fndB] at e
      refine vc_X10_difference_38 i z p h hS hd (fun _ _ _ _ => False) (fun _ _ _ _ q => q.elim) ⟨fun c => by rw [e]; exact k, fun c => by omega⟩
    | succ n ih =>
      intro p z ez hn hp e
      rw [fndB] at e
      refine vc_X10_difference_38 i z p h hS hd (fun y1 y2 y3 g' => y1 = i ∧ y2 = z ∧ y3 = ((p + 1 : Nat) : Int) ∧ g' = h ∧ p + 1 ≤ 201 ∧ fndB (fun p => decide (tg (dv h 8).1 p ≠ tg (kX h) p)) (max (dv h 8).1.length (kX h).length) n (p + 1) = rDiff (dv h 8).1 (kX h) i) ?_ ⟨fun c => ?_, fun c => ?_⟩
      · rintro _ _ _ _ ⟨q0, q1, q2, q3, q4, q5⟩
        rw [q0, q1, q2, q3]
        exact ih (p + 1) z ez (by omega) q4 q5
      · rw [if_pos (by omega)] at e
        rw [e]; exact k
      · rw [if_neg (by omega)] at e
        refine sp_X0_get tT_9 hS h8.1.2 (fun r er => qI_i ⟨hS, sp_X0_get tT_6 hS h6.2 (fun r2 er2 => qI_i ⟨hS, fun c1 => ⟨by omega, fun x ex _ => ⟨rfl, rfl, by omega, rfl, by omega, ?_⟩⟩, fun c1 => ?_⟩)⟩)
        · rw [rGet_9 (by omega), show (p : Int).toNat = p by omega] at er
          rw [rGet_6 (by omega), show (p : Int).toNat = p by omega] at er2
          rw [if_neg (by simp; omega)] at e
          exact e
        · rw [rGet_9 (by omega), show (p : Int).toNat = p by omega] at er
          rw [rGet_6 (by omega), show (p : Int).toNat = p by omega] at er2
          rw [if_pos (by simp; omega)] at e
          rw [e]; exact k
  refine vc_X10_difference_0 i h hS hd (fun y1 y2 y3 g' => y1 = i ∧ y2 = ((max (dv h 8).1.length (kX h).length : Nat) : Int) ∧ y3 = ((i.toNat : Nat) : Int) ∧ g' = h ∧ 0 ≤ i ∧ i ≤ 200) ?_ (sp_X10_isWithin hS (fun r er => qI_i ⟨hS, fun c => sp_max hS (fun r2 er2 => qI_i ⟨hS, fun _ => ⟨rfl, by omega, by omega, rfl, by omega, by omega⟩⟩), fun c => ?_⟩))
  · rintro _ _ _ _ ⟨q0, q1, q2, q3, q4, q5⟩
    rw [q0, q1, q2, q3]
    refine loop (max (dv h 8).1.length (kX h).length + 1) i.toNat _ rfl (by omega) (by omega) ?_
    unfold rDiff
    rw [if_pos ⟨q4, q5⟩]
  · unfold rDiff at k
    rw [if_neg (by omega)] at k
    exact k
def eI : Nat → Prop := fun b => b = 342
theorem sp_X10_nextDistances {r : Nat} (hd : 1 ≤ d) (hS : zSh h) (h8 : dOk h 8) (h6 : rOk h 6) (hr : r + 1 ≤ (kX h).length) (he : ∀ c : Nat, c ≤ (dv h 8).1.length → gI h 342 c = ed (kX h) (dv h 8).1 r c)
    (k : ∀ h', zSh h' → zF3 eI h h' → (∀ c : Nat, c ≤ (dv h 8).1.length → gI h' 342 c = ed (kX h) (dv h 8).1 (r + 1) c) → Q none h') : wpN G d M_X10_nextDistances 0 (zar 0 [vR 1, vI ((r : Int) + 1), vI ((dv h 8).1.length : Nat)]) [] h Q := by
  have hl := dv8_len h8
  have w1 : 0 ≤ gI h 9 1 := h8.1.1
  have w2 : gI h 9 1 ≤ 200 := h8.1.2
  have v1 : 0 ≤ gI h 6 1 := h6.1
  have v2 : gI h 6 1 ≤ 200 := h6.2
  have hk : ((kX h).length : Int) = gI h 6 1 := by unfold kX; rw [lst_len]; omega
  have loop : ∀ (n c : Nat) (g : zHp), c + n = (dv h 8).1.length → zSh g → zF3 eI h g → (∀ j : Nat, j ≤ (dv h 8).1.length → gI g 342 j = if j ≤ c then ed (kX h) (dv h 8).1 (r + 1) j else ed (kX h) (dv h 8).1 r j) → wpN G d M_X10_nextDistances 17 [(0, vR 1), (1, vI ((r : Int) + 1)), (2, vI ((dv h 8).1.length : Nat)), (3, vI (ed (kX h) (dv h 8).1 r c)), (4, vI (ed (kX h) (dv h 8).1 (r + 1) c)), (5, vI ((c : Int) + 1))] [] g Q := by
    intro n
    induction n with
    | zero =>
      intro c g hc s F e
      refine vc_X10_nextDistances_17 _ _ _ _ _ g s hd (fun _ _ _ _ _ _ => False) (fun _ _ _ _ _ _ q => q.elim) ⟨fun _ => k g s F (fun j hj => by rw [e j hj, if_pos (by omega)]), fun q => by omega⟩
    | succ n ih =>
      intro c g hc s F e
      have F9 := F 9 (by show ¬ (9 = 342); omega)
      have F10 := F 10 (by show ¬ (10 = 342); omega)
      have F6 := F 6 (by show ¬ (6 = 342); omega)
      have F7 := F 7 (by show ¬ (7 = 342); omega)
      have b1 := ed_bd (kX h) (dv h 8).1 r c
      have b2 := ed_bd (kX h) (dv h 8).1 r (c + 1)
      have b3 := ed_bd (kX h) (dv h 8).1 (r + 1) c
      have e5 : gI g 342 ((c : Int) + 1).toNat = ed (kX h) (dv h 8).1 r (c + 1) := by
        rw [show ((c : Int) + 1).toNat = c + 1 by omega, e (c + 1) (by omega), if_neg (by omega)]
      have step : ed (kX h) (dv h 8).1 (r + 1) (c + 1) = mn (ed (kX h) (dv h 8).1 r c + (if tg (kX h) r = tg (dv h 8).1 c then 0 else 1)) (mn (ed (kX h) (dv h 8).1 r (c + 1)) (ed (kX h) (dv h 8).1 (r + 1) c) + 1) := rfl
      have fin : ∀ (z : Int) (g' : zHp), z = ed (kX h) (dv h 8).1 (r + 1) (c + 1) → g' = sI g 342 (c + 1) z → zSh g' ∧ zF3 eI h g' ∧ ∀ j : Nat, j ≤ (dv h 8).1.length → gI g' 342 j = if j ≤ c + 1 then ed (kX h) (dv h 8).1 (r + 1) j else ed (kX h) (dv h 8).1 r j := by
        intro z g' ez eg
        refine ⟨by rw [eg]; exact s, by rw [eg]; exact F.tr (zF3.sI rfl), fun j hj => ?_⟩
        rw [eg, gI_sI]
        by_cases q : j = c + 1
        · rw [if_pos ⟨rfl, q⟩, if_pos (by omega), ez, q]
        · rw [if_neg (by omega), e j hj]
          by_cases q2 : j ≤ c
          · rw [if_pos q2, if_pos (by omega)]
          · rw [if_neg q2, if_neg (by omega)]
      refine vc_X10_nextDistances_17 _ _ _ _ _ g s hd (fun y1 y2 y3 y4 y5 g' => y1 = (r : Int) + 1 ∧ y2 = ((dv h 8).1.length : Nat) ∧ y3 = ed (kX h) (dv h 8).1 r (c + 1) ∧ y4 = ed (kX h) (dv h 8).1 (r + 1) (c + 1) ∧ y5 = ((c + 1 : Nat) : Int) + 1 ∧ g' = sI g 342 (c + 1) (ed (kX h) (dv h 8).1 (r + 1) (c + 1))) ?_ ⟨fun q => by omega, fun q => ⟨⟨by omega, by omega⟩, fun x2 ex2 => ⟨by omega, sp_X0_get tT_6 s (by rw [F6.1]; exact h6.2) (fun m em => qI_i ⟨s, by omega, sp_X0_get tT_9 s (by rw [F9.1]; exact h8.1.2) (fun b eb => qI_i ⟨s, ?_⟩)⟩)⟩⟩⟩
      · rintro _ _ _ _ _ g' ⟨q0, q1, q2, q3, q4, q5⟩
        obtain ⟨f1, f2, f3⟩ := fin _ g' rfl q5
        rw [q0, q1, q2, q3, q4]
        exact ih (c + 1) g' (by omega) f1 f2 f3
      · have em' : m = tg (kX h) r := by
          rw [em, show rGet g 6 ((r : Int) + 1 - 1) = rGet h 6 ((r : Int) + 1 - 1) by unfold rGet; rw [F6.1, F7.1], rGet_6 (by omega), show ((r : Int) + 1 - 1).toNat = r by omega]
        have eb' : b = tg (dv h 8).1 c := by
          rw [eb, show rGet g 9 ((c : Int) + 1 - 1) = rGet h 9 ((c : Int) + 1 - 1) by unfold rGet; rw [F9.1, F10.1], rGet_9 (by omega), show ((c : Int) + 1 - 1).toNat = c by omega]
        rw [e5] at ex2
        rw [em', eb', ex2]
        rw [← em', ← eb'] at step
        refine ⟨fun ne => ⟨by omega, fun x14 e14 => sp_min s (fun z16 e16 => qI_i ⟨s, by omega, sp_min s (fun z20 e20 => qI_i ⟨s, ⟨by omega, by omega⟩, fun h24 e24 => ⟨by omega, fun x ex _ => ?_⟩⟩)⟩)⟩, fun eq => sp_min s (fun z16 e16 => qI_i ⟨s, by omega, sp_min s (fun z20 e20 => qI_i ⟨s, ⟨by omega, by omega⟩, fun h24 e24 => ⟨by omega, fun x ex _ => ?_⟩⟩)⟩)⟩
        · have ez : z20 = ed (kX h) (dv h 8).1 (r + 1) (c + 1) := by
            rw [step, if_neg (by rw [em', eb']; exact ne)]
            unfold mn
            split <;> split <;> omega
          exact ⟨rfl, rfl, rfl, ez, by omega, by rw [e24, ez, show ((c : Int) + 1).toNat = c + 1 by omega]⟩
        · have ez : z20 = ed (kX h) (dv h 8).1 (r + 1) (c + 1) := by
            rw [step, if_pos (by rw [em', eb']; exact eq)]
            unfold mn
            split <;> split <;> omega
          exact ⟨rfl, rfl, rfl, ez, by omega, by rw [e24, ez, show ((c : Int) + 1).toNat = c + 1 by omega]⟩
  refine vc_X10_nextDistances_0 _ _ h hS hd (fun y1 y2 y3 y4 y5 g' => y1 = (r : Int) + 1 ∧ y2 = ((dv h 8).1.length : Nat) ∧ y3 = (r : Int) ∧ y4 = (r : Int) + 1 ∧ y5 = ((0 : Nat) : Int) + 1 ∧ g' = sI h 342 0 ((r : Int) + 1)) ?_ ⟨by omega, fun x1 e1 h3 e3 _ => ⟨rfl, rfl, by omega, rfl, by omega, e3⟩⟩
  rintro _ _ _ _ _ g' ⟨q0, q1, q2, q3, q4, q5⟩
  rw [q0, q1, q2, q3, q4]
  have z0 : ed (kX h) (dv h 8).1 r 0 = (r : Int) := by cases r <;> rfl
  have z1 : ed (kX h) (dv h 8).1 (r + 1) 0 = (r : Int) + 1 := rfl
  have := loop (dv h 8).1.length 0 g' (by omega) (by rw [q5]; exact hS) (by rw [q5]; exact zF3.sI rfl) (fun j hj => by
    rw [q5, gI_sI]
    by_cases q : j = 0
    · rw [if_pos ⟨rfl, q⟩, if_pos (by omega), q, z1]
    · rw [if_neg (by omega), if_neg (by omega), he j hj])
  rw [z0, z1] at this
  exact this
theorem sp_X10_distance (hd : 2 ≤ d) (hS : zSh h) (h8 : dOk h 8) (h6 : rOk h 6) (k : ∀ h', zSh h' → zF3 eI h h' → Q (some (vI (rDist (dv h 8).1 (kX h)))) h') : wpN G d M_X10_distance 0 (zar 0 [vR 1]) [] h Q := by
  have hl := dv8_len h8
  have w1 : 0 ≤ gI h 9 1 := h8.1.1
  have w2 : gI h 9 1 ≤ 200 := h8.1.2
  have v1 : 0 ≤ gI h 6 1 := h6.1
  have v2 : gI h 6 1 ≤ 200 := h6.2
  have hk : ((kX h).length : Int) = gI h 6 1 := by unfold kX; rw [lst_len]; omega
  have same : ∀ g, zF3 eI h g → dv g 8 = dv h 8 ∧ kX g = kX h ∧ dOk g 8 ∧ rOk g 6 ∧ gI g 6 1 = gI h 6 1 := by
    intro g F
    have n8 : ∀ b, dIn 8 b → ¬ eI b := by rintro b ⟨q1, q2⟩ q3; have : b = 342 := q3; omega
    have F6 := F 6 (by show ¬ (6 = 342); omega)
    have F7 := F 7 (by show ¬ (7 = 342); omega)
    exact ⟨dv_f3 8 F n8, by unfold kX; exact lst_eq (F6.1 1) (fun j _ => F7.1 j), dOk_f3 F n8 h8, ⟨by rw [F6.1]; exact h6.1, by rw [F6.1]; exact h6.2⟩, F6.1 1⟩
  have loop2 : ∀ (n r : Nat) (g : zHp), r + n = (kX h).length → zSh g → zF3 eI h g → (∀ c : Nat, c ≤ (dv h 8).1.length → gI g 342 c = ed (kX h) (dv h 8).1 r c) → wpN G d M_X10_distance 43 [(0, vR 1), (1, vI ((dv h 8).1.length : Nat)), (2, vI ((r : Int) + 1))] [] g Q := by
    intro n
    induction n with
    | zero =>
      intro r g hr s F e
      obtain ⟨s1, s2, s3, s4, s5⟩ := same g F
      refine vc_X10_distance_43 _ _ g s hd (fun _ _ _ => False) (fun _ _ _ q => q.elim) ⟨fun c => ⟨⟨by omega, by omega⟩, ?_⟩, fun c => by omega⟩
      have := k g s F
      unfold rDist at this
      rw [show ((((dv h 8).1.length : Nat) : Int)).toNat = (dv h 8).1.length by omega, e _ (Nat.le_refl _), show r = (kX h).length by omega]
      exact this
    | succ n ih =>
      intro r g hr s F e
      obtain ⟨s1, s2, s3, s4, s5⟩ := same g F
      refine vc_X10_distance_43 _ _ g s hd (fun y1 y2 g' => y1 = ((dv h 8).1.length : Nat) ∧ y2 = ((r + 1 : Nat) : Int) + 1 ∧ zSh g' ∧ zF3 eI h g' ∧ ∀ c : Nat, c ≤ (dv h 8).1.length → gI g' 342 c = ed (kX h) (dv h 8).1 (r + 1) c) ?_ ⟨fun c => by omega, fun c => ?_⟩
      · rintro _ _ g' ⟨q0, q1, q2, q3, q4⟩
        rw [q0, q1]
        exact ih (r + 1) g' (by omega) q2 q3 q4
      · rw [← s1]
        refine sp_X10_nextDistances (by omega) s s3 s4 (by rw [s2]; omega) (by rw [s1, s2]; exact e) (fun g' s' F' e' => qV_i ⟨s', by omega, fun x ex _ => ⟨rfl, by omega, s', F.tr F', ?_⟩⟩)
        rw [s1, s2] at e'
        rw [s1]
        exact e'
  have loop1 : ∀ (n c : Nat) (g : zHp), c + n = (dv h 8).1.length + 1 → zSh g → zF3 eI h g → (∀ j : Nat, j < c → gI g 342 j = (j : Int)) → wpN G d M_X10_distance 23 [(0, vR 1), (1, vI ((dv h 8).1.length : Nat)), (2, vI (c : Int))] [] g Q := by
    intro n
    induction n with
    | zero =>
      intro c g hc s F e
      refine vc_X10_distance_23 _ _ g s hd (fun _ _ _ => False) (fun _ _ _ q => q.elim) (fun y1 y2 g' => y1 = ((dv h 8).1.length : Nat) ∧ y2 = ((0 : Nat) : Int) + 1 ∧ g' = g) ?_ ⟨fun q _ => ⟨rfl, by omega, rfl⟩, fun q => by omega⟩
      rintro _ _ g' ⟨q0, q1, q2⟩
      rw [q0, q1, q2]
      exact loop2 (kX h).length 0 g (by omega) s F (fun j hj => by rw [e j (by omega)]; rfl)
    | succ n ih =>
      intro c g hc s F e
      refine vc_X10_distance_23 _ _ g s hd (fun y1 y2 g' => y1 = ((dv h 8).1.length : Nat) ∧ y2 = ((c + 1 : Nat) : Int) ∧ g' = sI g 342 c (c : Int)) ?_ (fun _ _ _ => False) (fun _ _ _ q => q.elim) ⟨fun q => by omega, fun q => ⟨⟨by omega, by omega⟩, fun h2 e2 => ⟨by omega, fun x ex _ => ⟨rfl, by omega, by rw [e2, show (c : Int).toNat = c by omega]⟩⟩⟩⟩
      rintro _ _ g' ⟨q0, q1, q2⟩
      rw [q0, q1, q2]
      refine ih (c + 1) _ (by omega) s (F.tr (zF3.sI rfl)) (fun j hj => ?_)
      rw [gI_sI]
      by_cases q : j = c
      · rw [if_pos ⟨rfl, q⟩, q]
      · rw [if_neg (by omega), e j (by omega)]
  refine vc_X10_distance_0 h hS hd (fun y1 y2 g' => y1 = ((dv h 8).1.length : Nat) ∧ y2 = ((0 : Nat) : Int) ∧ g' = h) ?_ ⟨by omega, sp_min hS (fun r er => qI_i ⟨hS, fun _ => ⟨by omega, rfl, rfl⟩⟩)⟩
  rintro _ _ g' ⟨q0, q1, q2⟩
  rw [q0, q1, q2]
  exact loop1 ((dv h 8).1.length + 1) 0 h (by omega) hS zF3.rf (fun j hj => by omega)
end XS2
