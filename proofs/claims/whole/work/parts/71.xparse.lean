/-! reading a template: the small parts of the program -/
def pAt (h : zHp) (t : List Int) (p : Nat) : Prop := p ≤ t.length ∧ gI h 211 2 = (p : Int) ∧ gI h 211 3 = tg t p
def pTx (h : zHp) (t : List Int) : Prop := tX h = t ∧ rOk h 2
def p34 : Nat → Nat → Prop := fun b j => b = 211 ∧ 2 ≤ j ∧ j ≤ 4
theorem pTx_len {h : zHp} {t : List Int} (x : pTx h t) : (t.length : Int) = gI h 2 1 ∧ t.length ≤ 120 := by
  have e : t.length = (gI h 2 1).toNat := by rw [← x.1]; unfold tX; rw [lst_len]
  have z := x.2.1
  have z2 := x.2.2
  have z3 : zlen (2 + 1) = 120 := by decide +kernel
  omega
theorem pTx_F {P : Nat → Nat → Prop} {h h' : zHp} {t : List Int} (F : zF4 P h h') (p2 : ∀ j, ¬ P 2 j) (p3 : ∀ j, ¬ P 3 j) (x : pTx h t) : pTx h' t := by
  have e2 : ∀ j, gI h' 2 j = gI h 2 j := fun j => F.I _ _ (p2 j)
  have e3 : ∀ j, gI h' 3 j = gI h 3 j := fun j => F.I _ _ (p3 j)
  refine ⟨?_, ?_⟩
  · rw [← x.1]
    unfold tX
    exact lst_eq (e2 1) (fun j _ => e3 j)
  · unfold rOk
    rw [e2]
    exact x.2
theorem pTx_34 {h h' : zHp} {t : List Int} (F : zF4 p34 h h') (x : pTx h t) : pTx h' t := pTx_F F (fun j q => by have := q.1; omega) (fun j q => by have := q.1; omega) x
theorem tg_lt {t : List Int} {p : Nat} (h : tg t p ≠ -1) : p < t.length := by
  by_cases q : t.length ≤ p
  · exact absurd (tg_out q) h
  · omega
theorem pTx_get {h : zHp} {t : List Int} (x : pTx h t) {p : Nat} (hp : p < t.length) : gI h 3 p = tg t p := by
  have l := (pTx_len x).1
  rw [← x.1]
  unfold tX
  exact (lst_tg (i := (p : Int)) (by omega) (by omega)).symm
section XPAR
variable {G : zG} {d : Nat} {Q : Option zV → zHp → Prop} {h : zHp} {t : List Int}
theorem sp_moveTo {p : Nat} (hd : 1 ≤ d) (hS : zSh h) (x : pTx h t) (hp : p ≤ t.length) (k : ∀ h', zSh h' → zF4 (fun b j => b = 211 ∧ (j = 2 ∨ j = 3)) h h' → pAt h' t (bl t p) → Q none h') : wpN G d M_X9_moveTo 0 (zar 0 [vR 211, vI (p : Int)]) [] h Q := by
  have l := pTx_len x
  have loop : ∀ (n y : Nat) (g : zHp), y + n = t.length → zSh g → zF4 (fun b j => b = 211 ∧ (j = 2 ∨ j = 3)) h g → gI g 211 2 = (y : Int) → bl t y = bl t p → wpN G d M_X9_moveTo 9 [(0, vR 211), (1, vI (p : Int))] [] g Q := by
    intro n
    induction n with
    | zero =>
      intro y g hy sg F e2 eb
      have lg : gI g 2 1 = gI h 2 1 := F.I _ _ (by rintro ⟨q, _⟩; omega)
      have by1 : bl t y = y := by rw [bl_step, if_neg (by rw [tg_out (by omega)]; omega)]
      refine vc_X9_moveTo_9 p g sg hd (fun _ _ => False) (fun _ _ q => q.elim) ⟨fun c => ⟨fun _ h3 e3 => ?_, fun c2 => by omega⟩, fun c => by omega⟩
      have F3 : zF4 (fun b j => b = 211 ∧ (j = 2 ∨ j = 3)) g h3 := by rw [e3]; exact zF4.sI ⟨rfl, Or.inr rfl⟩
      refine k h3 (F3.Sh sg) (F.tr F3) ⟨by rw [← eb, by1]; omega, ?_, ?_⟩
      · rw [e3, gI_sI, if_neg (by omega), e2, ← eb, by1]
      · rw [e3, gI_sI, if_pos ⟨rfl, rfl⟩, ← eb, by1, tg_out (by omega)]
    | succ n ih =>
      intro y g hy sg F e2 eb
      have lg : gI g 2 1 = gI h 2 1 := F.I _ _ (by rintro ⟨q, _⟩; omega)
      have xg := pTx_F F (fun j q => by have := q.1; omega) (fun j q => by have := q.1; omega) x
      have cy : gI g 3 y = tg t y := pTx_get xg (by omega)
      refine vc_X9_moveTo_9 p g sg hd (fun y1 g' => y1 = (p : Int) ∧ wpN G d M_X9_moveTo 9 [(0, vR 211), (1, vI (p : Int))] [] g' Q) ?_ ⟨fun c => by omega, fun c => ?_⟩
      · rintro _ _ ⟨q0, q1⟩
        rw [q0]
        exact q1
      · rw [e2, show (y : Int).toNat = y by omega, cy]
        refine ⟨⟨by omega, by omega⟩, fun c2 => ⟨fun c3 => by omega, fun _ => ⟨⟨by omega, by omega⟩, fun h11 e11 => ?_⟩⟩, fun c2 => ⟨by omega, fun h13 e13 s13 => ⟨rfl, ?_⟩⟩⟩
        · have by1 : bl t y = y := by rw [bl_step, if_neg c2]
          have F3 : zF4 (fun b j => b = 211 ∧ (j = 2 ∨ j = 3)) g h11 := by rw [e11]; exact zF4.sI ⟨rfl, Or.inr rfl⟩
          refine k h11 (F3.Sh sg) (F.tr F3) ⟨by rw [← eb, by1]; omega, ?_, ?_⟩
          · rw [e11, gI_sI, if_neg (by omega), e2, ← eb, by1]
          · rw [e11, gI_sI, if_pos ⟨rfl, rfl⟩, ← eb, by1]
        · have F3 : zF4 (fun b j => b = 211 ∧ (j = 2 ∨ j = 3)) g h13 := by rw [e13]; exact zF4.sI ⟨rfl, Or.inl rfl⟩
          refine ih (y + 1) h13 (by omega) s13 (F.tr F3) ?_ ?_
          · rw [e13, gI_sI, if_pos ⟨rfl, rfl⟩]; omega
          · rw [← eb, bl_step (i := y), if_pos c2]
  refine vc_X9_moveTo_0 p h hS hd (fun y1 g => y1 = (p : Int) ∧ g = sI h 211 2 (p : Int)) ?_ (sp_max hS (fun r hr => qI_i ⟨hS, fun h5 e5 _ => ⟨rfl, by rw [e5, show r = (p : Int) by omega]⟩⟩))
  rintro _ _ ⟨q0, q1⟩
  have F : zF4 (fun b j => b = 211 ∧ (j = 2 ∨ j = 3)) h (sI h 211 2 (p : Int)) := zF4.sI ⟨rfl, Or.inl rfl⟩
  rw [q0, q1]
  exact loop (t.length - p) p _ (by omega) (F.Sh hS) F (by rw [gI_sI, if_pos ⟨rfl, rfl⟩]) rfl
/-- one sign on, as calls write it -/
theorem sp_moveOn {p : Nat} {z : Int} (hd : 1 ≤ d) (hS : zSh h) (x : pTx h t) (hp : p < t.length) (ez : z = (p : Int) + 1) (k : ∀ h', zSh h' → zF4 (fun b j => b = 211 ∧ (j = 2 ∨ j = 3)) h h' → pAt h' t (bl t (p + 1)) → Q none h') : wpN G d M_X9_moveTo 0 (zar 0 [vR 211, vI z]) [] h Q := by
  rw [ez, show (p : Int) + 1 = ((p + 1 : Nat) : Int) by omega]
  exact sp_moveTo hd hS x (by omega) k
theorem sp_refuse {z : Int} (hS : zSh h) (k : ∀ h', zSh h' → zF4 p34 h h' → gI h' 211 4 = z → Q (some (vI 0)) h') : wpN G d M_X9_refuse 0 (zar 0 [vR 211, vI z]) [] h Q :=
  vc_X9_refuse_0 z h hS (Nat.zero_le _) (fun h1 e1 => by
    have F : zF4 p34 h h1 := by rw [e1]; exact zF4.sI ⟨rfl, by omega, by omega⟩
    exact k h1 (F.Sh hS) F (by rw [e1, gI_sI, if_pos ⟨rfl, rfl⟩]))
theorem F34 {h h' : zHp} (F : zF4 (fun b j => b = 211 ∧ (j = 2 ∨ j = 3)) h h') : zF4 p34 h h' ∧ gI h' 211 4 = gI h 211 4 := ⟨F.mono (fun b j q => ⟨q.1, by have := q.2; omega, by have := q.2; omega⟩), F.I _ _ (by rintro ⟨_, q⟩; omega)⟩
theorem sp_parseSign {p : Nat} {c : Int} (hd : 2 ≤ d) (hS : zSh h) (x : pTx h t) (ha : pAt h t p) (hc : 0 ≤ c)
    (k1 : ∀ h' p', pSg t c p = .inr p' → zSh h' → zF4 p34 h h' → gI h' 211 4 = gI h 211 4 → pAt h' t p' → Q (some (vI 1)) h')
    (k0 : ∀ h' f, pSg t c p = .inl f → zSh h' → zF4 p34 h h' → gI h' 211 4 = (f : Int) → Q (some (vI 0)) h') : wpN G d M_X9_parseSign 0 (zar 0 [vR 211, vI c]) [] h Q := by
  obtain ⟨a1, a2, a3⟩ := ha
  have l := pTx_len x
  refine vc_X9_parseSign_0 c h hS hd ?_
  rw [a3, a2]
  refine ⟨fun e => ⟨by omega, ?_⟩, fun e => ?_⟩
  · refine sp_moveOn (by omega) hS x (tg_lt (by omega)) rfl (fun h' s' F pa => qV_i ⟨s', ?_⟩)
    exact k1 h' _ (by unfold pSg; rw [if_pos e]) s' (F34 F).1 (F34 F).2 pa
  · exact sp_refuse hS (fun h' s' F e4 => qI_i ⟨s', Or.inl rfl, k0 h' p (by unfold pSg; rw [if_neg e]) s' F e4⟩)
theorem sp_isName {c : Int} (hS : zSh h) (k : ∀ r, (r = 1 ∧ isNmB c = true) ∨ (r = 0 ∧ isNmB c = false) → Q (some (vI r)) h) : wpN G d M_X9_isName 0 (zar 0 [vI c]) [] h Q :=
  vc_X9_isName_0 c h hS (Nat.zero_le _) ⟨fun q => k 0 (Or.inr ⟨rfl, by simp [isNmB]; omega⟩), fun q => ⟨fun q2 => k 0 (Or.inr ⟨rfl, by simp [isNmB]; omega⟩), fun q2 => k 1 (Or.inl ⟨rfl, by simp [isNmB]; omega⟩)⟩⟩
theorem sp_isDigit {c : Int} (hS : zSh h) (k : ∀ r, (r = 1 ∧ isDgB c = true) ∨ (r = 0 ∧ isDgB c = false) → Q (some (vI r)) h) : wpN G d M_X9_isDigit 0 (zar 0 [vI c]) [] h Q :=
  vc_X9_isDigit_0 c h hS (Nat.zero_le _) ⟨fun q => k 0 (Or.inr ⟨rfl, by simp [isDgB]; omega⟩), fun q => ⟨fun q2 => k 0 (Or.inr ⟨rfl, by simp [isDgB]; omega⟩), fun q2 => k 1 (Or.inl ⟨rfl, by simp [isDgB]; omega⟩)⟩⟩
theorem nSc_rng : ∀ (n e : Nat) (v : Int), 0 ≤ v → e ≤ t.length → e ≤ (nSc t n e v).1 ∧ (nSc t n e v).1 ≤ t.length ∧ 0 ≤ (nSc t n e v).2
  | 0, e, v, h0, h1 => ⟨Nat.le_refl _, h1, h0⟩
  | n + 1, e, v, h0, h1 => by
    rw [nSc]
    split
    · rename_i q
      have dg : isDg (tg t e) := isDgB_iff.mp q
      have d1 := dg.1
      have := nSc_rng n (e + 1) (10 * v + tg t e - 48) (by omega) (tg_lt (by omega))
      omega
    · exact ⟨Nat.le_refl _, h1, h0⟩
theorem nSc_max : ∀ (n e : Nat) (v m : Int), v ≤ m → 0 ≤ m → (nSc t n e v).2 ≤ (m + 1) * 10 ^ n - 1
  | 0, e, v, m, h0, _ => by
    show v ≤ (m + 1) * 1 - 1
    omega
  | n + 1, e, v, m, h0, h1 => by
    have pw : (0 : Int) < 10 ^ n := Int.pow_pos (by omega)
    rw [nSc, Int.pow_succ]
    split
    · rename_i q
      have dg : isDg (tg t e) := isDgB_iff.mp q
      have d2 := dg.2
      have := nSc_max n (e + 1) (10 * v + tg t e - 48) (10 * m + 9) (by omega) (by omega)
      have e2 : (10 * m + 9 + 1) * 10 ^ n = (m + 1) * (10 ^ n * 10) := by
        rw [show 10 * m + 9 + 1 = 10 * (m + 1) by omega, Int.mul_comm 10 (m + 1), Int.mul_assoc, Int.mul_comm 10]
      omega
    · show v ≤ _
      have : (m + 1) * 1 ≤ (m + 1) * (10 ^ n * 10) := Int.mul_le_mul_of_nonneg_left (by omega) (by omega)
      omega
theorem pNu_ok {p : Nat} {y : Nat × Int} (e : pNu t p = .inr y) : 0 ≤ y.2 ∧ y.2 ≤ 999 ∧ p < y.1 ∧ y.1 ≤ t.length := by
  unfold pNu at e
  split at e
  · rename_i q
    have e := Sum.inr.inj e
    have dg : isDg (tg t p) := isDgB_iff.mp q
    have d1 := dg.1
    have pl := tg_lt (t := t) (p := p) (by omega)
    have r := nSc_rng (t := t) 3 p 0 (by omega) (by omega)
    have m := nSc_max (t := t) 3 p 0 0 (by omega) (by omega)
    have b := bl_le r.2.1
    have s : p + 1 ≤ (nSc t 3 p 0).1 := by
      rw [nSc, if_pos q]
      exact (nSc_rng (t := t) 2 (p + 1) _ (by omega) (by omega)).1
    rw [← e]
    simp only [show (0 + 1 : Int) * 10 ^ 3 - 1 = 999 from rfl] at m
    exact ⟨r.2.2, m, by omega, b.2⟩
  · cases e
theorem sp_parseNumber {p : Nat} (hd : 2 ≤ d) (hS : zSh h) (x : pTx h t) (ha : pAt h t p)
    (k1 : ∀ h' y, pNu t p = .inr y → zSh h' → zF4 p34 h h' → gI h' 211 4 = gI h 211 4 → pAt h' t y.1 → Q (some (vI y.2)) h')
    (k0 : ∀ h' f, pNu t p = .inl f → zSh h' → zF4 p34 h h' → gI h' 211 4 = (f : Int) → Q (some (vI (-1))) h') : wpN G d M_X9_parseNumber 0 (zar 0 [vR 211]) [] h Q := by
  obtain ⟨a1, a2, a3⟩ := ha
  have l := pTx_len x
  have hz : gI h 2 1 ≤ zlen (2 + 1) := x.2.2
  have loop : ∀ (n c e : Nat) (v : Int), c + n = 3 → e ≤ t.length → (0 ≤ v ∧ v ≤ 10000) → (v + 1) * 10 ^ n ≤ 1000 → isDgB (tg t p) = true → nSc t n e v = nSc t 3 p 0 → wpN G d M_X9_parseNumber 30 [(0, vR 211), (1, vI v), (2, vI (e : Int)), (3, vI (c : Int))] [] h Q := by
    intro n
    induction n with
    | zero =>
      intro c e v hc he hv hb dg en
      rw [nSc] at en
      refine vc_X9_parseNumber_30 v e c h hS hd (fun _ _ _ _ => False) (fun _ _ _ _ q => q.elim) ⟨fun _ => sp_moveTo (by omega) hS x he (fun h' s' F pa => qV_i ⟨s', ?_⟩), fun c1 => by omega⟩
      exact k1 h' (bl t e, v) (by unfold pNu; rw [if_pos dg, ← en]) s' (F34 F).1 (F34 F).2 pa
    | succ n ih =>
      intro c e v hc he hv hb dg en
      have pw : (0 : Int) < 10 ^ n := Int.pow_pos (by omega)
      rw [Int.pow_succ] at hb
      refine vc_X9_parseNumber_30 v e c h hS hd (fun y1 y2 y3 g => g = h ∧ wpN G d M_X9_parseNumber 30 [(0, vR 211), (1, vI y1), (2, vI y2), (3, vI y3)] [] h Q) ?_ ⟨fun c1 => by omega, fun c1 => ?_⟩
      · rintro _ _ _ _ ⟨q0, q1⟩
        rw [q0]
        exact q1
      · refine sp_X0_get tT_2 hS hz (fun r er => qI_i ⟨hS, sp_isDigit hS (fun r2 hr2 => qI_i ⟨hS, fun z => ?_, fun z => ?_⟩)⟩)
        · have er2 : r = tg t e := by rw [er, rGet_tX (by omega), x.1, show (e : Int).toNat = e by omega]
          have nd : isDgB (tg t e) = false := by
            rw [← er2]
            rcases hr2 with ⟨q, _⟩ | ⟨_, q⟩
            · omega
            · exact q
          rw [nSc, if_neg (by rw [nd]; simp)] at en
          refine sp_moveTo (by omega) hS x he (fun h' s' F pa => qV_i ⟨s', ?_⟩)
          exact k1 h' (bl t e, v) (by unfold pNu; rw [if_pos dg, ← en]) s' (F34 F).1 (F34 F).2 pa
        · have er2 : r = tg t e := by rw [er, rGet_tX (by omega), x.1, show (e : Int).toNat = e by omega]
          have nd : isDgB (tg t e) = true := by
            rw [← er2]
            rcases hr2 with ⟨_, q⟩ | ⟨q, _⟩
            · exact q
            · exact absurd q z
          rw [nSc, if_pos nd] at en
          have dg2 : isDg (tg t e) := isDgB_iff.mp nd
          have d1 := dg2.1
          have d2 := dg2.2
          refine ⟨by omega, sp_X0_get tT_2 hS hz (fun r3 er3 => qI_i ⟨hS, ?_⟩)⟩
          have er4 : r3 = tg t e := by rw [er3, ← er, er2]
          refine ⟨by omega, by omega, fun x23 e23 => ⟨by omega, fun x25 e25 => ⟨by omega, fun x27 e27 _ => ⟨rfl, ?_⟩⟩⟩⟩
          rw [e23, e25, e27, er4, show (e : Int) + 1 = ((e + 1 : Nat) : Int) by omega, show (c : Int) + 1 = ((c + 1 : Nat) : Int) by omega]
          have h3 : (10 * v + tg t e - 48 + 1) * 10 ^ n ≤ (10 * (v + 1)) * 10 ^ n := Int.mul_le_mul_of_nonneg_right (by omega) (by omega)
          have h4 : (10 * (v + 1)) * 10 ^ n = (v + 1) * (10 ^ n * 10) := by rw [Int.mul_comm 10 (v + 1), Int.mul_assoc, Int.mul_comm 10]
          have h5 : (10 * v + tg t e - 48 + 1) * 1 ≤ (10 * v + tg t e - 48 + 1) * 10 ^ n := Int.mul_le_mul_of_nonneg_left (by omega) (by omega)
          have h6 : (v + 1) * 1 ≤ (v + 1) * 10 ^ n := Int.mul_le_mul_of_nonneg_left (by omega) (by omega)
          have h7 : (v + 1) * (10 ^ n * 10) = ((v + 1) * 10 ^ n) * 10 := by rw [Int.mul_assoc]
          exact ih (c + 1) (e + 1) _ (by omega) (tg_lt (by omega)) (by omega) (by omega) dg en
  refine vc_X9_parseNumber_0 h hS hd (fun y1 y2 y3 g => y1 = 0 ∧ y2 = (p : Int) ∧ y3 = ((0 : Nat) : Int) ∧ g = h ∧ isDgB (tg t p) = true) ?_ ?_
  · rintro _ _ _ _ ⟨q0, q1, q2, q3, q4⟩
    rw [q0, q1, q2, q3]
    exact loop 3 0 p 0 rfl a1 (by omega) (by decide) q4 rfl
  · rw [a3]
    refine sp_isDigit hS (fun r hr => qI_i ⟨hS, fun z x6 e6 _ => ⟨rfl, by rw [e6, a2], rfl, rfl, ?_⟩, fun z => ?_⟩)
    · rcases hr with ⟨_, q⟩ | ⟨q, _⟩
      · exact q
      · exact absurd q z
    · rw [a2]
      refine sp_refuse hS (fun h' s' F e4 => qI_i ⟨s', k0 h' p ?_ s' F e4⟩)
      unfold pNu
      rw [if_neg]
      rcases hr with ⟨q, _⟩ | ⟨_, q⟩
      · omega
      · rw [q]; simp
end XPAR
