/-! a text that is read gives a template in order -/
def ro1 (n : Nat) (g : Nat → Int) : Prop :=
  (n = 13 ∧ 0 ≤ g 0 ∧ g 0 ≤ 7) ∧
  ((g 0 ≤ 5 → 97 ≤ g 1 ∧ g 1 ≤ 122) ∧ (6 ≤ g 0 → g 1 = -1)) ∧
  (g 0 ≤ 1 → fSz (g 2) ∧ (g 3 = 0 ∨ g 3 = 1)) ∧ (2 ≤ g 0 → g 3 = 0) ∧ (g 0 = 2 → g 2 = 1) ∧ (g 0 = 3 ∨ g 0 = 4 → g 2 = 2) ∧ (5 ≤ g 0 → g 2 = 0)
def ro2 (R S : Int → Prop) (i : Int) (g : Nat → Int) : Prop :=
  ((g 6 = -1 ∧ g 7 = 0) ∨ (R (g 6) ∧ 0 ≤ g 7 ∧ g 7 ≤ 999)) ∧
  ((g 8 = 0 ∧ g 9 = -1 ∧ (g 0 ≤ 5 → g 10 = 0)) ∨ (g 8 = 1 ∧ (g 0 ≤ 1 ∨ g 0 = 5) ∧ ((g 9 = -1 ∧ 0 ≤ g 10 ∧ g 10 ≤ 999) ∨ (R (g 9) ∧ g 10 = 0)))) ∧
  (6 ≤ g 0 → 0 ≤ g 10 ∧ g 10 ≤ 999) ∧ (g 0 = 7 → 1 ≤ g 10) ∧
  ((2 ≤ g 0 ∧ g 0 ≤ 4 → 0 ≤ g 11 ∧ g 11 ≤ g 12 ∧ g 12 < i ∧ S (g 11) ∧ S (g 12)) ∧ (g 0 < 2 ∨ 4 < g 0 → g 11 = -1 ∧ g 12 = -1))
def pRe (T : List (List Int)) (q : Int) (n : Nat) (c : Int) : Prop := 0 ≤ c ∧ c < n ∧ tPl T c.toNat ∧ ∃ k, ti T c.toNat 4 = tUp T k q
def pSi (T : List (List Int)) (q : Int) (c : Int) : Prop := ti T c.toNat 4 = q
theorem tRo1_iff {T : List (List Int)} {i : Nat} : tRo1 T i ↔ ro1 (T.getD i []).length (ti T i) := Iff.rfl
theorem tRo2_iff {T : List (List Int)} {i : Nat} : tRo2 T i ↔ ro2 (tRef T i) (fun c => ti T c.toNat 4 = ti T i 4) i (ti T i) := Iff.rfl
theorem ro2_mono {R R' S S' : Int → Prop} {i : Int} {g : Nat → Int} (hR : ∀ c, R c → R' c) (hS : ∀ c, 0 ≤ c → c < i → S c → S' c) (h : ro2 R S i g) : ro2 R' S' i g := by
  obtain ⟨a, b, c, d, e, f⟩ := h
  refine ⟨?_, ?_, c, d, fun w => ?_, f⟩
  · rcases a with a | ⟨a1, a2⟩
    · exact Or.inl a
    · exact Or.inr ⟨hR _ a1, a2⟩
  · rcases b with b | ⟨b1, b2, b3 | ⟨b3, b4⟩⟩
    · exact Or.inl b
    · exact Or.inr ⟨b1, b2, Or.inl b3⟩
    · exact Or.inr ⟨b1, b2, Or.inr ⟨hR _ b3, b4⟩⟩
  · obtain ⟨e1, e2, e3, e4, e5⟩ := e w
    exact ⟨e1, e2, e3, hS _ e1 (by omega) e4, hS _ (by omega) e3 e5⟩
section PREAD
variable {t : List Int} {T : List (List Int)} {q : Int}
theorem tLk_see {c : Int} : ∀ (n : Nat) (q : Int), 0 ≤ tLk T n q c → ∃ k, ti T (tLk T n q c).toNat 4 = tUp T k q
  | 0, q, h => by rw [tLk] at h; omega
  | n + 1, q, h => by
    rw [tLk] at h ⊢
    by_cases e : (n : Int) = q
    · rw [if_pos e] at h ⊢
      obtain ⟨k, hk⟩ := tLk_see n _ h
      refine ⟨k + 1, ?_⟩
      have e2 : tPar T q = ti T n 4 := by unfold tPar; rw [if_neg (by omega)]; congr 1; omega
      rw [hk, tUp, e2]
    · rw [if_neg e] at h ⊢
      by_cases e2 : ti T n 4 = q ∧ ti T n 1 = c
      · rw [if_pos e2]
        refine ⟨0, ?_⟩
        rw [show (n : Int).toNat = n by omega, e2.1]
        rfl
      · rw [if_neg e2] at h ⊢
        exact tLk_see n q h
theorem tSb_see {c : Int} : ∀ n : Nat, 0 ≤ tSb T q n c → ti T (tSb T q n c).toNat 4 = q
  | 0, h => by rw [tSb] at h; omega
  | n + 1, h => by
    rw [tSb] at h ⊢
    by_cases e : ti T n 4 = q ∧ ti T n 1 = c
    · rw [if_pos e, show (n : Int).toNat = n by omega, e.1]
    · rw [if_neg e] at h ⊢
      exact tSb_see n h
theorem pB_ok {α β : Type} {x : Nat ⊕ α} {f : α → Nat ⊕ β} {z : β} (h : pB x f = .inr z) : ∃ y, x = .inr y ∧ f y = .inr z := by
  cases x with
  | inl e => cases h
  | inr y => exact ⟨y, rfl, h⟩
theorem pSg_ok {c : Int} {p p' : Nat} (h : pSg t c p = .inr p') (hc : 0 ≤ c) : p < p' ∧ p' ≤ t.length := by
  unfold pSg at h
  split at h
  · rename_i e
    have pl := tg_lt (t := t) (p := p) (by omega)
    have := bl_le (t := t) (i := p + 1) (by omega)
    have e2 := Sum.inr.inj h
    omega
  · cases h
theorem pRf_ok {i p : Nat} {y : Nat × Int} (h : pRf t T q i p = .inr y) : pRe T q i y.2 ∧ p < y.1 ∧ y.1 ≤ t.length := by
  unfold pRf at h
  split at h
  · rename_i e
    have e2 := Sum.inr.inj h
    have rg := tLk_rng (T := T) (c := tg t p) i q
    have nm := isNmB_iff.mp e.1
    have pl := tg_lt (t := t) (p := p) (by have := nm.1; omega)
    have := bl_le (t := t) (i := p + 1) (by omega)
    rw [← e2]
    exact ⟨⟨e.2.1, by show tLk T i q (tg t p) < i; omega, tPlB_iff.mp e.2.2, tLk_see i q e.2.1⟩, by show p < bl t (p + 1); omega, by show bl t (p + 1) ≤ t.length; omega⟩
  · cases h
theorem pSb_ok {i p : Nat} {least : Int} {y : Nat × Int} (h : pSb t T q i least p = .inr y) : (0 ≤ y.2 ∧ least ≤ y.2 ∧ y.2 < i ∧ pSi T q y.2) ∧ p < y.1 ∧ y.1 ≤ t.length := by
  unfold pSb at h
  split at h
  · rename_i e
    have e2 := Sum.inr.inj h
    have rg := tSb_rng (T := T) (q := q) (c := tg t p) i
    have nm := isNmB_iff.mp e.1
    have pl := tg_lt (t := t) (p := p) (by have := nm.1; omega)
    have := bl_le (t := t) (i := p + 1) (by omega)
    rw [← e2]
    exact ⟨⟨e.2.1, e.2.2, by show tSb T q i (tg t p) < i; omega, tSb_see i e.2.1⟩, by show p < bl t (p + 1); omega, by show bl t (p + 1) ≤ t.length; omega⟩
  · cases h
def ctOk (R : Int → Prop) (c : Int × (Int × Int)) : Prop := (c.1 = 0 ∧ c.2.1 = -1 ∧ c.2.2 = 0) ∨ (c.1 = 1 ∧ ((c.2.1 = -1 ∧ 0 ≤ c.2.2 ∧ c.2.2 ≤ 999) ∨ (R c.2.1 ∧ c.2.2 = 0)))
theorem pCt_ok {i p : Nat} {y : Nat × (Int × (Int × Int))} (hp : p ≤ t.length) (h : pCt t T q i p = .inr y) : ctOk (pRe T q i) y.2 ∧ p ≤ y.1 ∧ y.1 ≤ t.length := by
  unfold pCt at h
  split at h
  · rename_i c
    have pl := tg_lt (t := t) (p := p) (by omega)
    have b := bl_le (t := t) (i := p + 1) (by omega)
    split at h
    · obtain ⟨x, e1, e2⟩ := pB_ok h
      have e2 := Sum.inr.inj e2
      obtain ⟨r1, r2, r3⟩ := pRf_ok e1
      rw [← e2]
      exact ⟨Or.inr ⟨rfl, Or.inr ⟨r1, rfl⟩⟩, by show p ≤ x.1; omega, r3⟩
    · obtain ⟨x, e1, e2⟩ := pB_ok h
      have e2 := Sum.inr.inj e2
      obtain ⟨r1, r2, r3, r4⟩ := pNu_ok e1
      rw [← e2]
      exact ⟨Or.inr ⟨rfl, Or.inl ⟨rfl, r1, r2⟩⟩, by show p ≤ x.1; omega, r4⟩
  · have e2 := Sum.inr.inj h
    rw [← e2]
    exact ⟨Or.inl ⟨rfl, rfl, rfl⟩, Nat.le_refl _, hp⟩
theorem pInt_ok {p : Nat} {y : Nat × (Int × Int)} (hp : p < t.length) (h : pInt t p = .inr y) : fSz y.2.1 ∧ (y.2.2 = 0 ∨ y.2.2 = 1) ∧ p < y.1 ∧ y.1 ≤ t.length := by
  unfold pInt at h
  split at h
  · rename_i c
    have b1 := bl_le (t := t) (i := p + 1) (by omega)
    have p1 := tg_lt (t := t) (p := bl t (p + 1)) (by omega)
    have b2 := bl_le (t := t) (i := bl t (p + 1) + 1) (by omega)
    have z : fSz (tg t (bl t (p + 1)) - 48) := by unfold fSz; omega
    split at h
    · rename_i c2
      have p2 := tg_lt (t := t) (p := bl t (bl t (p + 1) + 1)) (by omega)
      have b3 := bl_le (t := t) (i := bl t (bl t (p + 1) + 1) + 1) (by omega)
      have e2 := Sum.inr.inj h
      rw [← e2]
      exact ⟨z, Or.inr rfl, by show p < bl t (bl t (bl t (p + 1) + 1) + 1); omega, b3.2⟩
    · have e2 := Sum.inr.inj h
      rw [← e2]
      exact ⟨z, Or.inl rfl, by show p < bl t (bl t (p + 1) + 1); omega, b2.2⟩
  · cases h
theorem pChk_ok {i p : Nat} {y : Nat × (Int × Int)} (hp : p < t.length) (h : pChk t T q i p = .inr y) : (0 ≤ y.2.1 ∧ y.2.1 ≤ y.2.2 ∧ y.2.2 < i ∧ pSi T q y.2.1 ∧ pSi T q y.2.2) ∧ p < y.1 ∧ y.1 ≤ t.length := by
  unfold pChk at h
  have b1 := bl_le (t := t) (i := p + 1) (by omega)
  obtain ⟨p1, e1, h⟩ := pB_ok h
  obtain ⟨x, e2, h⟩ := pB_ok h
  obtain ⟨p3, e3, h⟩ := pB_ok h
  obtain ⟨z, e4, h⟩ := pB_ok h
  obtain ⟨p5, e5, h⟩ := pB_ok h
  have e6 := Sum.inr.inj h
  have q1 := pSg_ok e1 (by omega)
  obtain ⟨s1, q2⟩ := pSb_ok e2
  have q3 := pSg_ok e3 (by omega)
  obtain ⟨s2, q4⟩ := pSb_ok e4
  have q5 := pSg_ok e5 (by omega)
  rw [← e6]
  exact ⟨⟨s1.1, s2.2.1, s2.2.2.1, s1.2.2.2, s2.2.2.2⟩, by show p < p5; omega, q5.2⟩
def rowOk (T : List (List Int)) (q : Int) (r : List Int) : Prop := ro1 r.length (fun f => r.getD f 0) ∧ ro2 (pRe T q T.length) (pSi T q) T.length (fun f => r.getD f 0) ∧ r.getD 4 0 = q ∧ r.getD 5 0 = (T.length : Int) + 1
def cdOk (R : Int → Prop) (c v : Int) : Prop := (c = -1 ∧ v = 0) ∨ (R c ∧ 0 ≤ v ∧ v ≤ 999)
theorem pTy_ok {dep p : Nat} {name cc cv : Int} {y : Nat × (List Int × Bool)} (hn : 97 ≤ name ∧ name ≤ 122) (hcd : cdOk (pRe T q T.length) cc cv) (h : pTy t T q dep T.length p name cc cv = .inr y) : rowOk T q y.2.1 ∧ (y.2.2 = true → y.2.1.getD 0 0 ≠ 5) ∧ (y.2.2 = false → y.2.1.getD 0 0 = 5 ∧ dep < 3) ∧ p < y.1 ∧ y.1 ≤ t.length := by
  unfold pTy at h
  split at h
  · rename_i c
    have pl := tg_lt (t := t) (p := p) (by omega)
    obtain ⟨x, e1, h⟩ := pB_ok h
    obtain ⟨z, e2, h⟩ := pB_ok h
    have e3 := Sum.inr.inj h
    obtain ⟨s1, s2, s3, s4⟩ := pInt_ok pl e1
    obtain ⟨c1, c2, c3⟩ := pCt_ok s4 e2
    have kd : (if tg t p = 105 then (1 : Int) else 0) = 0 ∨ (if tg t p = 105 then (1 : Int) else 0) = 1 := by split <;> simp
    rw [← e3]
    refine ⟨⟨⟨⟨rfl, ?_, ?_⟩, ⟨fun _ => hn, fun w => ?_⟩, fun _ => ⟨s1, s2⟩, fun w => ?_, fun w => ?_, fun w => ?_, fun w => ?_⟩, ⟨hcd, ?_, fun w => ?_, fun w => ?_, fun w => ?_, fun _ => ⟨rfl, rfl⟩⟩, rfl, rfl⟩, fun _ => ?_, fun w => (by cases w), by show p < z.1; omega, c3⟩
    · show 0 ≤ (if tg t p = 105 then (1 : Int) else 0); omega
    · show (if tg t p = 105 then (1 : Int) else 0) ≤ 7; omega
    · have w' : 6 ≤ (if tg t p = 105 then (1 : Int) else 0) := w
      omega
    · have w' : 2 ≤ (if tg t p = 105 then (1 : Int) else 0) := w
      omega
    · have w' : (if tg t p = 105 then (1 : Int) else 0) = 2 := w
      omega
    · have w' : (if tg t p = 105 then (1 : Int) else 0) = 3 ∨ (if tg t p = 105 then (1 : Int) else 0) = 4 := w
      omega
    · have w' : 5 ≤ (if tg t p = 105 then (1 : Int) else 0) := w
      omega
    · rcases c1 with ⟨c1, c4, c5⟩ | ⟨c1, c4⟩
      · exact Or.inl ⟨c1, c4, fun _ => c5⟩
      · exact Or.inr ⟨c1, Or.inl (by show (if tg t p = 105 then (1 : Int) else 0) ≤ 1; omega), c4⟩
    · have w' : 6 ≤ (if tg t p = 105 then (1 : Int) else 0) := w
      omega
    · have w' : (if tg t p = 105 then (1 : Int) else 0) = 7 := w
      omega
    · have w' : 2 ≤ (if tg t p = 105 then (1 : Int) else 0) ∧ _ := w
      omega
    · show (if tg t p = 105 then (1 : Int) else 0) ≠ 5
      omega
  · split at h
    · rename_i c
      split at h
      · cases h
      · rename_i hd
        have e3 := Sum.inr.inj h
        have pl := tg_lt (t := t) (p := p) (by omega)
        have b1 := bl_le (t := t) (i := p + 1) (by omega)
        rw [← e3]
        refine ⟨⟨⟨⟨rfl, by show (0 : Int) ≤ 5; omega, by show (5 : Int) ≤ 7; omega⟩, ⟨fun _ => hn, fun w => ?_⟩, fun w => ?_, fun _ => rfl, fun w => ?_, fun w => ?_, fun _ => rfl⟩, ⟨hcd, Or.inl ⟨rfl, rfl, fun _ => rfl⟩, fun w => ?_, fun w => ?_, fun w => ?_, fun _ => ⟨rfl, rfl⟩⟩, rfl, rfl⟩, fun w => (by cases w), fun _ => ⟨rfl, by omega⟩, by show p < bl t (p + 1); omega, b1.2⟩
        · have w' : (6 : Int) ≤ 5 := w
          omega
        · have w' : (5 : Int) ≤ 1 := w
          omega
        · have w' : (5 : Int) = 2 := w
          omega
        · have w' : (5 : Int) = 3 ∨ (5 : Int) = 4 := w
          omega
        · have w' : (6 : Int) ≤ 5 := w
          omega
        · have w' : (5 : Int) = 7 := w
          omega
        · have w' : (2 : Int) ≤ 5 ∧ (5 : Int) ≤ 4 := w
          omega
    · have chk : ∀ (kind size : Int), (kind = 2 ∧ size = 1) ∨ ((kind = 3 ∨ kind = 4) ∧ size = 2) → tg t p ≠ -1 → pB (pChk t T q T.length p) (fun x => (.inr (x.1, (rw13 kind name size 0 q ((T.length : Int) + 1) cc cv 0 (-1) 0 x.2.1 x.2.2, true)) : Nat ⊕ (Nat × (List Int × Bool)))) = .inr y → rowOk T q y.2.1 ∧ (y.2.2 = true → y.2.1.getD 0 0 ≠ 5) ∧ (y.2.2 = false → y.2.1.getD 0 0 = 5 ∧ dep < 3) ∧ p < y.1 ∧ y.1 ≤ t.length := by
        intro kind size hk hp h
        obtain ⟨x, e1, h⟩ := pB_ok h
        have e3 := Sum.inr.inj h
        obtain ⟨⟨s1, s2, s3, s4, s5⟩, s6, s7⟩ := pChk_ok (tg_lt hp) e1
        rw [← e3]
        refine ⟨⟨⟨⟨rfl, by show 0 ≤ kind; omega, by show kind ≤ 7; omega⟩, ⟨fun _ => hn, fun w => ?_⟩, fun w => ?_, fun _ => rfl, fun w => ?_, fun w => ?_, fun w => ?_⟩, ⟨hcd, Or.inl ⟨rfl, rfl, fun _ => rfl⟩, fun w => ?_, fun w => ?_, fun _ => ⟨s1, s2, s3, s4, s5⟩, fun w => ?_⟩, rfl, rfl⟩, fun _ => by show kind ≠ 5; omega, fun w => (by cases w), s6, s7⟩
        · have w' : 6 ≤ kind := w
          omega
        · have w' : kind ≤ 1 := w
          omega
        · have w' : kind = 2 := w
          show size = 1
          omega
        · have w' : kind = 3 ∨ kind = 4 := w
          show size = 2
          omega
        · have w' : 5 ≤ kind := w
          omega
        · have w' : 6 ≤ kind := w
          omega
        · have w' : kind = 7 := w
          omega
        · have w' : kind < 2 ∨ 4 < kind := w
          omega
      split at h
      · exact chk 2 1 (by omega) (by omega) h
      · split at h
        · exact chk 3 2 (by omega) (by omega) h
        · split at h
          · exact chk 4 2 (by omega) (by omega) h
          · cases h
theorem pCd_ok {i p : Nat} {y : Nat × (Int × Int)} (hp : p ≤ t.length) (h : pCd t T q i p = .inr y) : cdOk (pRe T q i) y.2.1 y.2.2 ∧ p ≤ y.1 ∧ y.1 ≤ t.length := by
  unfold pCd at h
  split at h
  · rename_i c
    have pl := tg_lt (t := t) (p := p) (by omega)
    have b1 := bl_le (t := t) (i := p + 1) (by omega)
    obtain ⟨x, e1, h⟩ := pB_ok h
    obtain ⟨p2, e2, h⟩ := pB_ok h
    obtain ⟨z, e3, h⟩ := pB_ok h
    have e4 := Sum.inr.inj h
    obtain ⟨s1, s2, s3⟩ := pRf_ok e1
    have q2 := pSg_ok e2 (by omega)
    obtain ⟨s4, s5, s6, s7⟩ := pNu_ok e3
    rw [← e4]
    exact ⟨Or.inr ⟨s1, s4, s5⟩, by show p ≤ z.1; omega, s7⟩
  · have e2 := Sum.inr.inj h
    rw [← e2]
    exact ⟨Or.inl ⟨rfl, rfl⟩, Nat.le_refl _, hp⟩
theorem pItm_ok {dep p : Nat} {y : Nat × (List Int × Bool)} (hp : p ≤ t.length) (h : pItm t T q dep p = .inr y) : T.length < 24 ∧ rowOk T q y.2.1 ∧ (y.2.2 = true → y.2.1.getD 0 0 ≠ 5) ∧ (y.2.2 = false → y.2.1.getD 0 0 = 5 ∧ dep < 3) ∧ p < y.1 ∧ y.1 ≤ t.length := by
  unfold pItm at h
  split at h
  · cases h
  · rename_i l24
    obtain ⟨x, e1, h⟩ := pB_ok h
    obtain ⟨z, e2, h⟩ := pB_ok h
    obtain ⟨c1, c2, c3⟩ := pCd_ok hp e1
    have main : rowOk T q z.2.1 ∧ (z.2.2 = true → z.2.1.getD 0 0 ≠ 5) ∧ (z.2.2 = false → z.2.1.getD 0 0 = 5 ∧ dep < 3) ∧ p < z.1 ∧ z.1 ≤ t.length := by
      split at e2
      · rename_i c
        unfold pGap at e2
        obtain ⟨w, e3, e2⟩ := pB_ok e2
        obtain ⟨s4, s5, s6, s7⟩ := pNu_ok e3
        have pl := tg_lt (t := t) (p := x.1) (by omega)
        have b1 := bl_le (t := t) (i := x.1 + 1) (by omega)
        split at e2
        · cases e2
        · rename_i nb
          have e4 := Sum.inr.inj e2
          have kd : ((if tg t x.1 = 64 then (7 : Int) else 6) = 7 ∧ 1 ≤ w.2) ∨ (if tg t x.1 = 64 then (7 : Int) else 6) = 6 := by
            split
            · rename_i z; exact Or.inl ⟨rfl, by omega⟩
            · exact Or.inr rfl
          rw [← e4]
          refine ⟨⟨⟨⟨rfl, ?_, ?_⟩, ⟨fun w' => ?_, fun _ => rfl⟩, fun w' => ?_, fun _ => rfl, fun w' => ?_, fun w' => ?_, fun _ => rfl⟩, ⟨c1, Or.inl ⟨rfl, rfl, fun w' => ?_⟩, fun _ => ⟨s4, s5⟩, fun w' => ?_, fun w' => ?_, fun _ => ⟨rfl, rfl⟩⟩, rfl, rfl⟩, fun _ => ?_, fun w' => (by cases w'), by show p < w.1; omega, s7⟩
          · show 0 ≤ (if tg t x.1 = 64 then (7 : Int) else 6); omega
          · show (if tg t x.1 = 64 then (7 : Int) else 6) ≤ 7; omega
          · have w' : (if tg t x.1 = 64 then (7 : Int) else 6) ≤ 5 := w'
            omega
          · have w' : (if tg t x.1 = 64 then (7 : Int) else 6) ≤ 1 := w'
            omega
          · have w' : (if tg t x.1 = 64 then (7 : Int) else 6) = 2 := w'
            omega
          · have w' : (if tg t x.1 = 64 then (7 : Int) else 6) = 3 ∨ (if tg t x.1 = 64 then (7 : Int) else 6) = 4 := w'
            omega
          · have w' : (if tg t x.1 = 64 then (7 : Int) else 6) ≤ 5 := w'
            omega
          · have w' : (if tg t x.1 = 64 then (7 : Int) else 6) = 7 := w'
            show 1 ≤ w.2
            omega
          · have w' : _ ∧ (if tg t x.1 = 64 then (7 : Int) else 6) ≤ 4 := w'
            omega
          · show (if tg t x.1 = 64 then (7 : Int) else 6) ≠ 5
            omega
      · obtain ⟨p2, e3, e2⟩ := pB_ok e2
        unfold pNm at e3
        split at e3
        · rename_i c
          have nm := isNmB_iff.mp c.1
          have pl := tg_lt (t := t) (p := x.1) (by have := nm.1; omega)
          have b1 := bl_le (t := t) (i := x.1 + 1) (by omega)
          have q3 := pSg_ok e3 (by omega)
          obtain ⟨a1, a2, a3, a4, a5⟩ := pTy_ok nm c1 e2
          exact ⟨a1, a2, a3, by omega, a5⟩
        · cases e3
    split at h
    · rename_i ov
      obtain ⟨p3, e3, h⟩ := pB_ok h
      have e4 := Sum.inr.inj h
      have q3 := pSg_ok e3 (by omega)
      rw [← e4]
      exact ⟨by omega, main.1, main.2.1, main.2.2.1, by show p < p3; have := main.2.2.2; omega, q3.2⟩
    · have e4 := Sum.inr.inj h
      rw [← e4]
      exact ⟨by omega, main⟩
end PREAD
