/-! patterns: pure part -/
def pd (c : Int) : Int := if 48 ≤ c ∧ c ≤ 57 then c - 48 else if 97 ≤ c ∧ c ≤ 102 then c - 87 else if c = 63 then 16 else -1
theorem pd_rng (c : Int) : -1 ≤ pd c ∧ pd c ≤ 16 := by
  unfold pd
  split
  · omega
  · split
    · omega
    · split <;> omega
def tg (t : List Int) (i : Nat) : Int := t.getD i (-1)
/-- a text read as a pattern from place i on, with the pairs found so far: its fault, and the pairs -/
def pfS (t : List Int) : Nat → Nat → List (Int × Int) → Int × List (Int × Int)
  | 0, _, ps => (if ps.length = 0 then (t.length : Int) else -1009, ps)
  | k + 1, i, ps =>
    if t.length ≤ i then (if ps.length = 0 then (t.length : Int) else -1009, ps)
    else if tg t i = 32 then pfS t k (i + 1) ps
    else if 16 ≤ ps.length then ((i : Int), ps)
    else if pd (tg t i) = -1 then ((i : Int), ps)
    else if pd (tg t (i + 1)) = -1 then ((i : Int) + 1, ps)
    else pfS t k (i + 2) (ps ++ [(pd (tg t i), pd (tg t (i + 1)))])
def pf (t : List Int) : Int × List (Int × Int) := pfS t t.length 0 []
theorem lst_tg {f : Nat → Int} {n i : Int} (h0 : 0 ≤ i) (h1 : i < n) : tg (lst f n) i.toNat = f i.toNat := by
  unfold tg
  rw [List.getD_eq_getElem?_getD, lst_get (by omega)]
  rfl
theorem lst_tg' {f : Nat → Int} {n i : Int} (h1 : n ≤ i) : tg (lst f n) i.toNat = -1 := by
  unfold tg
  rw [List.getD_eq_getElem?_getD, lst_none (by omega)]
  rfl
/-- the text of the class -/
def tX (h : zHp) : List Int := lst (gI h 3) (gI h 2 1)
theorem rGet_tX {h : zHp} {i : Int} (h0 : 0 ≤ i) : rGet h 2 i = tg (tX h) i.toNat := by
  unfold rGet tX
  by_cases q : i < gI h 2 1
  · rw [if_pos ⟨h0, q⟩, lst_tg h0 q]
  · rw [if_neg (by omega), lst_tg' (by omega)]
def pI : Nat → Prop := fun b => 212 ≤ b ∧ b ≤ 214
/-- the pattern object holds these pairs -/
def pP (h : zHp) (ps : List (Int × Int)) : Prop := gI h 212 2 = ps.length ∧ ps.length ≤ 16 ∧ ∀ j : Nat, j < ps.length → gI h 213 j = (ps.getD j (0, 0)).1 ∧ gI h 214 j = (ps.getD j (0, 0)).2
/-- whether a pair fits a byte -/
def pFit (p : Int × Int) (b : Int) : Prop := (p.1 = 16 ∨ p.1 = b / 16) ∧ (p.2 = 16 ∨ p.2 = b % 16)
/-- whether the pairs fit the bytes from a place on -/
def pFits (ps : List (Int × Int)) (bs : List Int) (i : Int) : Prop := i + ps.length ≤ bs.length ∧ ∀ j : Nat, j < ps.length → pFit (ps.getD j (0, 0)) (tg bs (i + j).toNat)
section PAT
variable {G : zG} {d : Nat} {Q : Option zV → zHp → Prop} {h : zHp}
theorem sp_X7_digitOf {c : Int} (hS : zSh h) (k : ∀ r, r = pd c → Q (some (vI r)) h) : wpN G d M_X7_digitOf 0 (zar 0 [vI c]) [] h Q := by
  unfold pd at k
  refine vc_X7_digitOf_0 c h hS (Nat.zero_le _) ⟨fun c1 => ⟨fun c2 => ⟨fun c3 => k _ ?_, fun c3 => k _ ?_⟩, fun c2 => by omega⟩, fun c1 => ⟨fun c2 => ⟨fun c3 => ⟨fun c4 => k _ ?_, fun c4 => k _ ?_⟩, fun c3 => ⟨fun c4 => ⟨fun c5 => k _ ?_, fun c5 => by omega⟩, fun c4 => ⟨by omega, by omega, k _ ?_⟩⟩⟩, fun c2 => ⟨by omega, k _ ?_⟩⟩⟩
  · rw [if_neg (by omega), if_neg (by omega), if_neg c3]
  · rw [if_neg (by omega), if_neg (by omega), if_pos c3]
  · rw [if_neg (by omega), if_neg (by omega), if_neg c4]
  · rw [if_neg (by omega), if_neg (by omega), if_pos c4]
  · rw [if_neg (by omega), if_neg (by omega), if_neg c5]
  · rw [if_neg (by omega), if_pos ⟨c3, c4⟩]; omega
  · rw [if_pos ⟨c1, c2⟩]
theorem sp_X7_fitsDigit {x y : Int} (hS : zSh h) (k1 : (x = 16 ∨ x = y) → Q (some (vI 1)) h) (k0 : ¬ (x = 16 ∨ x = y) → Q (some (vI 0)) h) : wpN G d M_X7_fitsDigit 0 (zar 0 [vI x, vI y]) [] h Q :=
  vc_X7_fitsDigit_0 x y h hS (Nat.zero_le _) ⟨fun c => k1 (Or.inl c), fun c => ⟨fun c2 => k0 (by omega), fun c2 => k1 (Or.inr c2)⟩⟩
theorem sp_X7_faultOf (hd : 1 ≤ d) (hS : zSh h) (hz : rOk h 2) (k : ∀ g, zSh g → zF3 pI h g → pP g (pf (tX h)).2 → Q (some (vI (pf (tX h)).1)) g) : wpN G d M_X7_faultOf 0 (zar 0 [vR 212, vR 2]) [] h Q := by
  obtain ⟨z1, z2⟩ := hz
  have z3 : gI h 2 1 ≤ 120 := z2
  have hl : ((tX h).length : Int) = gI h 2 1 := by unfold tX; rw [lst_len]; omega
  have loop : ∀ (n i : Nat) (ps : List (Int × Int)) (g : zHp), (tX h).length ≤ i + n → i ≤ (tX h).length + 1 → zSh g → zF3 pI h g → pP g ps → pfS (tX h) n i ps = pf (tX h) → wpN G d M_X7_faultOf 7 [(0, vR 212), (1, vR 2), (2, vI (i : Int))] [] g Q := by
    intro n
    induction n with
    | zero =>
      intro i ps g hn hi s F P e
      have e2 : gI g 2 1 = gI h 2 1 := (F 2 (by rintro ⟨a, b⟩; omega)).1 1
      rw [pfS] at e
      refine vc_X7_faultOf_7 2 tT_2 i g s hd (fun _ _ _ => False) (fun _ _ _ q => q.elim) ⟨fun c => ⟨fun c1 => ?_, fun c1 => ?_⟩, fun c => by omega⟩
      · have := k g s F (by rw [← e]; exact P)
        rw [← e, if_neg (by have := P.1; omega)] at this
        exact this
      · have := k g s F (by rw [← e]; exact P)
        rw [← e, if_pos (by have := P.1; omega)] at this
        rw [e2, ← hl]
        exact this
    | succ n ih =>
      intro i ps g hn hi s F P e
      have F2 := F 2 (by rintro ⟨a, b⟩; omega)
      have F3 := F 3 (by rintro ⟨a, b⟩; omega)
      have e2 : gI g 2 1 = gI h 2 1 := F2.1 1
      have eg : ∀ x : Int, 0 ≤ x → rGet g 2 x = tg (tX h) x.toNat := fun x hx => by
        rw [← rGet_tX hx]
        unfold rGet
        rw [e2, F3.1]
      have zg : gI g 2 1 ≤ zlen (2 + 1) := by rw [e2]; exact z2
      obtain ⟨P1, P2, P3⟩ := P
      rw [pfS] at e
      refine vc_X7_faultOf_7 2 tT_2 i g s hd (fun y1 y2 g' => y1 = 2 ∧ ∃ (i' : Nat) (ps' : List (Int × Int)), y2 = (i' : Int) ∧ (tX h).length ≤ i' + n ∧ i' ≤ (tX h).length + 1 ∧ zSh g' ∧ zF3 pI h g' ∧ pP g' ps' ∧ pfS (tX h) n i' ps' = pf (tX h)) ?_ ⟨fun c => ?_, fun c => ?_⟩
      · rintro _ _ g' ⟨q0, i', ps', q1, q2, q3, q4, q5, q6, q7⟩
        rw [q0, q1]
        exact ih i' ps' g' q2 q3 q4 q5 q6 q7
      · rw [if_pos (by omega)] at e
        refine ⟨fun c1 => ?_, fun c1 => ?_⟩
        · have := k g s F (by rw [← e]; exact ⟨P1, P2, P3⟩)
          rw [← e, if_neg (by omega)] at this
          exact this
        · have := k g s F (by rw [← e]; exact ⟨P1, P2, P3⟩)
          rw [← e, if_pos (by omega)] at this
          rw [e2, ← hl]
          exact this
      · rw [if_neg (by omega)] at e
        refine sp_X0_get tT_2 s zg (fun r er => qI_i ⟨s, fun c1 => ?_, fun c1 => ⟨by omega, fun x ex _ => ⟨rfl, i + 1, ps, by omega, by omega, by omega, s, F, ⟨P1, P2, P3⟩, ?_⟩⟩⟩)
        · rw [eg i (by omega), show (i : Int).toNat = i by omega] at er
          rw [if_neg (by omega)] at e
          refine sp_X0_get tT_2 s zg (fun r2 er2 => qI_i ⟨s, sp_X7_digitOf s (fun d1 ed1 => qI_i ⟨s, by omega, sp_X0_get tT_2 s zg (fun r3 er3 => qI_i ⟨s, sp_X7_digitOf s (fun d2 ed2 => qI_i ⟨s, ?_⟩)⟩)⟩)⟩)
          rw [eg i (by omega), show (i : Int).toNat = i by omega] at er2
          rw [eg (i + 1) (by omega), show ((i : Int) + 1).toNat = i + 1 by omega] at er3
          rw [er2] at ed1
          rw [er3] at ed2
          rw [← ed1, ← ed2] at e
          refine ⟨fun c2 => ?_, fun c2 => ⟨fun c3 => ⟨fun c4 => ⟨⟨by omega, by omega⟩, fun h27 e27 => ?_⟩, fun c4 => ⟨by omega, ?_⟩⟩, fun c3 => ?_⟩⟩
          · rw [if_pos (by omega)] at e
            have := k g s F (by rw [← e]; exact ⟨P1, P2, P3⟩)
            rw [← e] at this
            exact this
          · rw [if_neg (by omega), if_neg c3, if_neg c4] at e
            have a27 : gI h27 212 2 = gI g 212 2 := by rw [e27, gI_sI, if_neg (by omega)]
            refine ⟨⟨by omega, by omega⟩, fun h29 e29 => ?_⟩
            have a29 : gI h29 212 2 = gI g 212 2 := by rw [e29, gI_sI, if_neg (by omega)]; exact a27
            refine ⟨by omega, fun h31 e31 => ⟨by omega, fun x ex s31 => ⟨rfl, i + 2, ps ++ [(d1, d2)], by omega, by omega, by omega, s31, ?_, ⟨?_, ?_, ?_⟩, e⟩⟩⟩
            · rw [e31, e29, e27]
              exact F.tr (((zF3.sI (P := pI) ⟨by omega, by omega⟩).tr (zF3.sI ⟨by omega, by omega⟩)).tr (zF3.sI ⟨by omega, by omega⟩))
            · rw [e31, gI_sI, if_pos ⟨rfl, rfl⟩, a29, P1]; simp
            · simp; omega
            · intro j hj
              simp only [List.length_append, List.length_cons, List.length_nil] at hj
              have b1 : gI h31 213 j = if j = ps.length then d1 else gI g 213 j := by
                rw [e31, gI_sI, if_neg (by omega), e29, gI_sI, if_neg (by omega), e27, gI_sI, P1]
                by_cases q : j = ps.length
                · rw [if_pos ⟨rfl, by omega⟩, if_pos q]
                · rw [if_neg (by omega), if_neg q]
              have b2 : gI h31 214 j = if j = ps.length then d2 else gI g 214 j := by
                rw [e31, gI_sI, if_neg (by omega), e29, gI_sI, a27, P1, e27, gI_sI]
                by_cases q : j = ps.length
                · rw [if_pos ⟨rfl, by omega⟩, if_pos q]
                · rw [if_neg (by omega), if_neg q, if_neg (by omega)]
              rw [b1, b2]
              by_cases q : j = ps.length
              · rw [if_pos q, if_pos q, q]; simp
              · rw [if_neg q, if_neg q, List.getD_eq_getElem?_getD, List.getElem?_append_left (by omega), ← List.getD_eq_getElem?_getD]
                exact P3 j (by omega)
          · rw [if_neg (by omega), if_neg c3, if_pos c4] at e
            have := k g s F (by rw [← e]; exact ⟨P1, P2, P3⟩)
            rw [← e] at this
            exact this
          · rw [if_neg (by omega), if_pos c3] at e
            have := k g s F (by rw [← e]; exact ⟨P1, P2, P3⟩)
            rw [← e] at this
            exact this
        · rw [eg i (by omega), show (i : Int).toNat = i by omega] at er
          rw [if_pos (by omega)] at e
          exact e
  refine vc_X7_faultOf_0 2 tT_2 h hS hd (fun y1 y2 g' => y1 = 2 ∧ y2 = ((0 : Nat) : Int) ∧ zSh g' ∧ zF3 pI h g' ∧ pP g' []) ?_ (fun h1 e1 s1 => ⟨rfl, rfl, s1, by rw [e1]; exact zF3.sI ⟨by omega, by omega⟩, by rw [e1, gI_sI, if_pos ⟨rfl, rfl⟩]; rfl, by simp, fun j hj => absurd hj (by simp)⟩)
  rintro _ _ g' ⟨q0, q1, q2, q3, q4⟩
  rw [q0, q1]
  exact loop (tX h).length 0 [] g' (by omega) (by omega) q2 q3 q4 rfl
theorem sp_X7_fits {p : Int} {ps : List (Int × Int)} (hd : 1 ≤ d) (hS : zSh h) (hz : dOk h 8) (hP : pP h ps) (p0 : 0 ≤ p) (p1 : p ≤ 200) (k1 : pFits ps (dv h 8).1 p → Q (some (vI 1)) h) (k0 : ¬ pFits ps (dv h 8).1 p → Q (some (vI 0)) h) : wpN G d M_X7_fits 0 (zar 0 [vR 212, vR 9, vI p]) [] h Q := by
  obtain ⟨P1, P2, P3⟩ := hP
  obtain ⟨⟨w1, w2⟩, w3, -⟩ := hz
  have hl : ((dv h 8).1.length : Int) = gI h 9 1 := by show ((lst (gI h 10) (gI h 9 1)).length : Int) = _; rw [lst_len]; have : 0 ≤ gI h 9 1 := w1; omega
  have w1' : 0 ≤ gI h 9 1 := w1
  have w2' : gI h 9 1 ≤ 200 := w2
  have loop : ∀ (n j : Nat), j + n = ps.length → p + ps.length ≤ gI h 9 1 → (∀ i : Nat, i < j → pFit (ps.getD i (0, 0)) (tg (dv h 8).1 (p + i).toNat)) → wpN G d M_X7_fits 21 [(0, vR 212), (1, vR 9), (2, vI p), (3, vI (j : Int))] [] h Q := by
    intro n
    induction n with
    | zero =>
      intro j hj hle hf
      refine vc_X7_fits_21 9 tT_9 p j h hS hd (fun _ _ _ _ => False) (fun _ _ _ _ q => q.elim) ⟨fun c => k1 ⟨by omega, fun i hi => hf i (by omega)⟩, fun c => by omega⟩
    | succ n ih =>
      intro j hj hle hf
      obtain ⟨g1, g2⟩ := P3 j (by omega)
      have eb : tg (dv h 8).1 (p + j).toNat = gI h 10 (p + j).toNat := lst_tg (f := gI h 10) (n := gI h 9 1) (by omega) (by omega)
      have bb : 0 ≤ gI h 10 (p + j).toNat ∧ gI h 10 (p + j).toNat ≤ 255 := w3 (p + j).toNat (by omega)
      have e1 : (gI h 10 (p + j).toNat).tdiv 16 = gI h 10 (p + j).toNat / 16 := Int.tdiv_eq_ediv_of_nonneg bb.1
      have e2 : (gI h 10 (p + j).toNat).tmod 16 = gI h 10 (p + j).toNat % 16 := Int.tmod_eq_emod_of_nonneg bb.1
      refine vc_X7_fits_21 9 tT_9 p j h hS hd (fun y1 y2 y3 h' => y1 = 9 ∧ y2 = p ∧ y3 = ((j + 1 : Nat) : Int) ∧ h' = h ∧ pFit (ps.getD j (0, 0)) (tg (dv h 8).1 (p + j).toNat)) ?_ ⟨fun c => by omega, fun c => ⟨by omega, sp_X0_get tT_9 hS (show gI h 9 1 ≤ _ from w2) (fun r er => qI_i ⟨hS, ⟨by omega, by omega⟩, ?_⟩)⟩⟩
      · rintro _ _ _ _ ⟨q0, q1, q2, q3, q4⟩
        rw [q0, q1, q2, q3]
        refine ih (j + 1) (by omega) hle (fun i hi => ?_)
        by_cases qi : i = j
        · rw [qi]; exact q4
        · exact hf i (by omega)
      · rw [rGet, if_pos ⟨by omega, by omega⟩] at er
        rw [er, show (j : Int).toNat = j by omega]
        show wpN G (d - 1) M_X7_fitsDigit 0 (zar 0 [vI (gI h 213 j), vI ((gI h 10 (p + j).toNat).tdiv 16)]) [] h _
        rw [e1, g1]
        refine sp_X7_fitsDigit hS (fun t1 => qI_i ⟨hS, fun z => by omega, fun _ => ⟨⟨by omega, by omega⟩, ?_⟩⟩) (fun t1 => qI_i ⟨hS, fun _ => k0 (fun q => t1 ?_), fun z => absurd rfl z⟩)
        · show wpN G (d - 1) M_X7_fitsDigit 0 (zar 0 [vI (gI h 214 j), vI ((gI h 10 (p + j).toNat).tmod 16)]) [] h _
          rw [e2, g2]
          refine sp_X7_fitsDigit hS (fun t2 => qI_i ⟨hS, fun _ => ⟨by omega, fun x ex _ => ⟨rfl, rfl, by omega, rfl, by rw [eb]; exact ⟨t1, t2⟩⟩⟩, fun z => by omega⟩) (fun t2 => qI_i ⟨hS, fun z => absurd rfl z, fun _ => k0 (fun q => t2 ?_)⟩)
          have := (q.2 j (by omega)).2
          rw [eb] at this
          exact this
        · have := (q.2 j (by omega)).1
          rw [eb] at this
          exact this
  refine vc_X7_fits_0 9 tT_9 p h hS hd (fun y1 y2 y3 h' => y1 = 9 ∧ y2 = p ∧ y3 = ((0 : Nat) : Int) ∧ h' = h ∧ p + ps.length ≤ gI h 9 1) ?_ ⟨fun c => by omega, fun _ => ⟨by omega, fun c _ => ⟨rfl, rfl, rfl, rfl, by omega⟩, fun c => k0 (fun q => by have := q.1; omega)⟩⟩
  rintro _ _ _ _ ⟨q0, q1, q2, q3, q4⟩
  rw [q0, q1, q2, q3]
  exact loop ps.length 0 (by omega) q4 (fun i hi => by omega)
end PAT
