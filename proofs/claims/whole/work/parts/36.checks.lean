/-! checksums: pure part -/
def crS (r : Nat) : Nat := if 32768 ≤ r then (2 * r % 65536) ^^^ 4129 else 2 * r % 65536
def crI : Nat → Nat → Nat
  | 0, r => r
  | k + 1, r => crS (crI k r)
def crH (r : Nat) : Nat := if r % 2 = 0 then r / 2 else (r ^^^ 4129) / 2 + 32768
def chI : Nat → Nat → Nat
  | 0, r => r
  | k + 1, r => crH (chI k r)
theorem xor16 {a b : Nat} (ha : a < 65536) (hb : b < 65536) : a ^^^ b < 65536 := Nat.xor_lt_two_pow (n := 16) ha hb
theorem crS_lt (r : Nat) : crS r < 65536 := by
  unfold crS
  split
  · exact xor16 (by omega) (by omega)
  · omega
theorem crI_lt {r : Nat} (h : r < 65536) : ∀ k, crI k r < 65536
  | 0 => h
  | k + 1 => crS_lt _
theorem xor_odd (a : Nat) : (a ^^^ 4129) % 2 = (a + 1) % 2 := by
  have e := Nat.testBit_xor (x := a) (y := 4129) (i := 0)
  rw [Nat.testBit_zero, Nat.testBit_zero, Nat.testBit_zero] at e
  rcases Nat.mod_two_eq_zero_or_one a with q | q <;> rw [q] at e
  · have e2 := of_decide_eq_true (e.trans (show (decide (0 = 1) ^^ decide (4129 % 2 = 1)) = true from rfl))
    omega
  · have e2 := of_decide_eq_false (e.trans (show (decide (1 = 1) ^^ decide (4129 % 2 = 1)) = false from rfl))
    omega
theorem crH_lt {r : Nat} (h : r < 65536) : crH r < 65536 := by
  unfold crH
  have := xor16 h (show 4129 < 65536 by omega)
  split <;> omega
theorem chI_lt {r : Nat} (h : r < 65536) : ∀ k, chI k r < 65536
  | 0 => h
  | k + 1 => crH_lt (chI_lt h k)
theorem crH_S {r : Nat} (h : r < 65536) : crH (crS r) = r := by
  unfold crS
  split
  · unfold crH
    rw [if_neg (by rw [xor_odd]; omega), Nat.xor_assoc, Nat.xor_self, Nat.xor_zero]
    omega
  · unfold crH
    rw [if_pos (by omega)]
    omega
theorem crS_H {r : Nat} (h : r < 65536) : crS (crH r) = r := by
  have hx := xor16 h (show 4129 < 65536 by omega)
  have ho := xor_odd r
  unfold crH
  split
  · unfold crS
    rw [if_neg (by omega)]
    omega
  · unfold crS
    rw [if_pos (by omega), show 2 * ((r ^^^ 4129) / 2 + 32768) % 65536 = r ^^^ 4129 by omega, Nat.xor_assoc, Nat.xor_self, Nat.xor_zero]
theorem crI_succ' (k r : Nat) : crI (k + 1) r = crI k (crS r) := by
  induction k with
  | zero => rfl
  | succ k ih => rw [crI, ih, crI]
theorem chI_succ' (k r : Nat) : chI (k + 1) r = chI k (crH r) := by
  induction k with
  | zero => rfl
  | succ k ih => rw [chI, ih, chI]
theorem chI_crI {r : Nat} (h : r < 65536) : ∀ k, chI k (crI k r) = r
  | 0 => rfl
  | k + 1 => by rw [chI_succ', crI, crH_S (crI_lt h k), chI_crI h k]
theorem crI_chI {r : Nat} (h : r < 65536) : ∀ k, crI k (chI k r) = r
  | 0 => rfl
  | k + 1 => by rw [crI_succ', chI, crS_H (chI_lt h k), crI_chI h k]
/-- a byte fed to the register -/
def cF (r b : Int) : Int := ((crI 8 (r.toNat ^^^ (256 * b.toNat)) : Nat) : Int)
theorem cF_rng {r b : Int} (h0 : 0 ≤ r) (h1 : r < 65536) (b0 : 0 ≤ b) (b1 : b ≤ 255) : 0 ≤ cF r b ∧ cF r b < 65536 := by
  have := crI_lt (xor16 (a := r.toNat) (b := 256 * b.toNat) (by omega) (by omega)) 8
  unfold cF
  omega
theorem zxor_i {x y : Int} (x0 : 0 ≤ x) (x1 : x < 2147483648) (y0 : 0 ≤ y) (y1 : y < 2147483648) : zxor x y = ((x.toNat ^^^ y.toNat : Nat) : Int) := by
  have e := zxor_nat (a := x.toNat) (b := y.toNat) (by omega) (by omega)
  rw [show ((x.toNat : Nat) : Int) = x by omega, show ((y.toNat : Nat) : Int) = y by omega] at e
  exact e
/-- what a byte does to a checksum of a kind -/
def ckA (kind x b : Int) : Int := if kind = 2 then ((x.toNat ^^^ b.toNat : Nat) : Int) else if kind = 3 then (x + b) % 65536 else cF x b
def ckE (kind : Int) (f : Nat → Int) (s : Int) : Nat → Int
  | 0 => if kind = 4 then 65535 else 0
  | k + 1 => ckA kind (ckE kind f s k) (f (s + k).toNat)
/-- the expected value of a check of a kind over a range -/
def ckX (kind : Int) (f : Nat → Int) (s e : Int) : Int := ckE kind f s (e - s).toNat
theorem ckA_rng {kind x b : Int} (hk : kind = 2 ∨ kind = 3 ∨ kind = 4) (h0 : 0 ≤ x) (h1 : x < 65536) (b0 : 0 ≤ b) (b1 : b ≤ 255) : 0 ≤ ckA kind x b ∧ ckA kind x b < 65536 := by
  unfold ckA
  rcases hk with rfl | rfl | rfl
  · have := xor16 (a := x.toNat) (b := b.toNat) (by omega) (by omega)
    rw [if_pos rfl]
    omega
  · rw [if_neg (by omega), if_pos rfl]
    omega
  · rw [if_neg (by omega), if_neg (by omega)]
    exact cF_rng h0 h1 b0 b1
theorem ckE_rng {kind : Int} {f : Nat → Int} {s len : Int} (hk : kind = 2 ∨ kind = 3 ∨ kind = 4) (hb : byOk f len) (s0 : 0 ≤ s) : ∀ k : Nat, s + k ≤ len → 0 ≤ ckE kind f s k ∧ ckE kind f s k < 65536
  | 0, _ => by
    rw [ckE]
    split <;> omega
  | k + 1, hl => by
    have ih := ckE_rng hk hb s0 k (by omega)
    have hq := hb (s + k).toNat (by omega)
    rw [ckE]
    exact ckA_rng hk ih.1 ih.2 hq.1 hq.2
section CHK
variable {G : zG} {d : Nat} {Q : Option zV → zHp → Prop} {f a : Nat} {h : zHp}
theorem dbl_i {n : Nat} : (2 * (n : Int)).tmod 65536 = ((2 * n % 65536 : Nat) : Int) := by
  rw [Int.tmod_eq_emod_of_nonneg (by omega)]
  omega
theorem sp_X1_feed {r b : Int} (hS : zSh h) (h0 : 0 ≤ r) (h1 : r < 65536) (b0 : 0 ≤ b) (b1 : b ≤ 255) (k : Q (some (vI (cF r b))) h) : wpN G d M_X1_feed 0 (zar 0 [vI r, vI b]) [] h Q := by
  have hr := xor16 (a := r.toNat) (b := 256 * b.toNat) (by omega) (by omega)
  have loop : ∀ (n j : Nat), j + n = 8 → wpN G d M_X1_feed 10 [(0, vI r), (1, vI b), (2, vI ((crI j (r.toNat ^^^ (256 * b.toNat)) : Nat) : Int)), (3, vI (j : Int))] [] h Q := by
    intro n
    induction n with
    | zero =>
      intro j hj
      have ej : j = 8 := by omega
      refine vc_X1_feed_10 r b _ j h hS (Nat.zero_le _) (fun _ _ _ _ _ => False) (fun _ _ _ _ _ q => q.elim) ⟨fun c => by rw [ej]; exact k, fun c => by omega⟩
    | succ n ih =>
      intro j hj
      have bd := crI_lt hr j
      refine vc_X1_feed_10 r b _ j h hS (Nat.zero_le _) (fun y0 y1 y2 y3 h' => y0 = r ∧ y1 = b ∧ y2 = ((crI (j + 1) (r.toNat ^^^ (256 * b.toNat)) : Nat) : Int) ∧ y3 = ((j + 1 : Nat) : Int) ∧ h' = h) ?_ ⟨fun c => by omega, fun c => ⟨by omega, fun x2 e2 => ⟨fun c1 => ⟨by omega, fun x ex _ => ⟨rfl, rfl, ?_, by omega, rfl⟩⟩, fun c1 x7 e7 => ⟨by omega, fun x ex _ => ⟨rfl, rfl, ?_, by omega, rfl⟩⟩⟩⟩⟩
      · rintro _ _ _ _ _ ⟨q0, q1, q2, q3, q4⟩
        rw [q0, q1, q2, q3, q4]
        exact ih (j + 1) (by omega)
      · rw [e2, dbl_i, crI, crS, if_neg (by omega)]
      · rw [e7, e2, dbl_i, zxor_i (by omega) (by omega) (by omega) (by omega), crI, crS, if_pos (by omega)]
        rfl
  refine vc_X1_feed_0 r b h hS (Nat.zero_le _) (fun y0 y1 y2 y3 h' => y0 = r ∧ y1 = b ∧ y2 = ((crI 0 (r.toNat ^^^ (256 * b.toNat)) : Nat) : Int) ∧ y3 = 0 ∧ h' = h) ?_ ⟨by omega, fun x1 e1 _ => ⟨rfl, rfl, ?_, rfl, rfl⟩⟩
  · rintro _ _ _ _ _ ⟨q0, q1, q2, q3, q4⟩
    rw [q0, q1, q2, q3, q4]
    exact loop 8 0 rfl
  · rw [e1, zxor_i h0 (by omega) (by omega) (by omega), crI, show (256 * b).toNat = 256 * b.toNat by omega]
theorem sp_X1_halve {r : Nat} (hS : zSh h) (h1 : r < 65536) (k : Q (some (vI ((chI 8 r : Nat) : Int))) h) : wpN G d M_X1_halve 0 (zar 0 [vI (r : Int)]) [] h Q := by
  have loop : ∀ (n j : Nat), j + n = 8 → wpN G d M_X1_halve 4 [(0, vI (r : Int)), (1, vI ((chI j r : Nat) : Int)), (2, vI (j : Int))] [] h Q := by
    intro n
    induction n with
    | zero =>
      intro j hj
      have ej : j = 8 := by omega
      refine vc_X1_halve_4 r _ j h hS (Nat.zero_le _) (fun _ _ _ _ => False) (fun _ _ _ _ q => q.elim) ⟨fun c => by rw [ej]; exact k, fun c => by omega⟩
    | succ n ih =>
      intro j hj
      have bd := chI_lt h1 j
      have bx := xor16 bd (show 4129 < 65536 by omega)
      have em : ((chI j r : Nat) : Int).tmod 2 = ((chI j r % 2 : Nat) : Int) := by rw [Int.tmod_eq_emod_of_nonneg (by omega)]; omega
      have ed : ∀ n : Nat, (n : Int).tdiv 2 = ((n / 2 : Nat) : Int) := fun n => by rw [Int.tdiv_eq_ediv_of_nonneg (by omega)]; omega
      have ez : zxor ((chI j r : Nat) : Int) 4129 = ((chI j r ^^^ 4129 : Nat) : Int) := by
        rw [zxor_i (by omega) (by omega) (by omega) (by omega)]
        rfl
      refine vc_X1_halve_4 r _ j h hS (Nat.zero_le _) (fun y0 y1 y2 h' => y0 = r ∧ y1 = ((chI (j + 1) r : Nat) : Int) ∧ y2 = ((j + 1 : Nat) : Int) ∧ h' = h) ?_ ⟨fun c => by omega, fun c => ⟨fun c1 => ?_, fun c1 x7 e7 => ⟨by omega, fun x ex _ => ⟨rfl, ?_, by omega, rfl⟩⟩⟩⟩
      · rintro _ _ _ _ ⟨q0, q1, q2, q3⟩
        rw [q0, q1, q2, q3]
        exact ih (j + 1) (by omega)
      · rw [ez, ed]
        refine ⟨by omega, fun x3 e3 => ⟨by omega, fun x ex _ => ⟨rfl, ?_, by omega, rfl⟩⟩⟩
        rw [e3, chI, crH, if_neg (by omega)]
        omega
      · rw [e7, ed, chI, crH, if_pos (by omega)]
  refine vc_X1_halve_0 r h hS (Nat.zero_le _) (fun y0 y1 y2 h' => y0 = r ∧ y1 = ((chI 0 r : Nat) : Int) ∧ y2 = 0 ∧ h' = h) ?_ (fun _ => ⟨rfl, rfl, rfl, rfl⟩)
  rintro _ _ _ _ ⟨q0, q1, q2, q3⟩
  rw [q0, q1, q2, q3]
  exact loop 8 0 rfl
/-- a check field whose range lies in the row -/
def fCk (h : zHp) (a f : Nat) : Prop := (gI h f 2 = 2 ∨ gI h f 2 = 3 ∨ gI h f 2 = 4) ∧ 0 ≤ gI h f 4 ∧ gI h f 4 ≤ gI h f 5 ∧ gI h f 5 ≤ gI h a 1
def fExp (h : zHp) (a f : Nat) : Int := ckX (gI h f 2) (gI h (a + 1)) (gI h f 4) (gI h f 5)
theorem fExp_rng (hb : byOk (gI h (a + 1)) (gI h a 1)) (hc : fCk h a f) : 0 ≤ fExp h a f ∧ fExp h a f < 65536 := by
  obtain ⟨c1, c2, c3, c4⟩ := hc
  exact ckE_rng c1 hb c2 _ (by omega)
theorem sp_X1_expectedOf (hd : 1 ≤ d) (hT : zT 369 a = (100, 2)) (hTf : zT 369 f = (103, 8)) (hS : zSh h) (hz : rOk h a) (hb : byOk (gI h (a + 1)) (gI h a 1)) (hc : fCk h a f) (k : Q (some (vI (fExp h a f))) h) : wpN G d M_X1_expectedOf 0 (zar 0 [vR f, vR a]) [] h Q := by
  obtain ⟨c1, c2, c3, c4⟩ := hc
  obtain ⟨z1, z2⟩ := hz
  have z3 := zlen_le (a + 1)
  have loop : ∀ (n j : Nat), j + n = (gI h f 5 - gI h f 4).toNat → wpN G d M_X1_expectedOf 20 [(0, vR f), (1, vR a), (2, vI (ckE (gI h f 2) (gI h (a + 1)) (gI h f 4) j)), (3, vI (gI h f 4 + j))] [] h Q := by
    intro n
    induction n with
    | zero =>
      intro j hj
      refine vc_X1_expectedOf_20 f hTf a hT _ _ h hS hd (fun _ _ _ _ _ => False) (fun _ _ _ _ _ q => q.elim) ⟨fun c => ?_, fun c => by omega⟩
      rw [show j = (gI h f 5 - gI h f 4).toNat by omega]
      exact k
    | succ n ih =>
      intro j hj
      have hr := ckE_rng c1 hb c2 j (by omega)
      have hq := hb (gI h f 4 + j).toNat (by omega)
      refine vc_X1_expectedOf_20 f hTf a hT _ _ h hS hd (fun y0 y1 y2 y3 h' => y0 = f ∧ y1 = a ∧ y2 = ckE (gI h f 2) (gI h (a + 1)) (gI h f 4) (j + 1) ∧ y3 = gI h f 4 + ((j + 1 : Nat) : Int) ∧ h' = h) ?_ ⟨fun c => by omega, fun c => sp_X0_get hT hS z2 (fun r er => qI_i ⟨hS, sp_max hS (fun r2 er2 => qI_i ⟨hS, ?_⟩)⟩)⟩
      · rintro _ _ _ _ _ ⟨q0, q1, q2, q3, q4⟩
        rw [q0, q1, q2, q3, q4]
        exact ih (j + 1) (by omega)
      · have e : r2 = gI h (a + 1) (gI h f 4 + j).toNat := by
          rw [rGet, if_pos ⟨by omega, by omega⟩] at er
          omega
        rw [e]
        refine ⟨fun k2 => ⟨fun k3 => sp_X1_feed hS hr.1 hr.2 hq.1 hq.2 (qI_i ⟨hS, by omega, fun x ex _ => ⟨rfl, rfl, ?_, by omega, rfl⟩⟩), fun k3 => ⟨by omega, fun x18 e18 => ⟨by omega, fun x ex _ => ⟨rfl, rfl, ?_, by omega, rfl⟩⟩⟩⟩, fun k2 x22 e22 => ⟨by omega, fun x ex _ => ⟨rfl, rfl, ?_, by omega, rfl⟩⟩⟩
        · rw [ckE, ckA, if_neg k2, if_neg k3]
        · rw [ckE, ckA, if_neg k2, if_pos k3, e18, Int.tmod_eq_emod_of_nonneg (by omega)]
        · rw [ckE, ckA, if_pos k2, e22, zxor_i (by omega) (by omega) (by omega) (by omega)]
  refine vc_X1_expectedOf_0 f hTf a hT h hS hd (fun y0 y1 y2 y3 h' => y0 = f ∧ y1 = a ∧ y2 = ckE (gI h f 2) (gI h (a + 1)) (gI h f 4) 0 ∧ y3 = gI h f 4 + ((0 : Nat) : Int) ∧ h' = h) ?_ ⟨fun c x ex _ => ⟨rfl, rfl, ?_, by omega, rfl⟩, fun c x ex _ => ⟨rfl, rfl, ?_, by omega, rfl⟩⟩
  · rintro _ _ _ _ _ ⟨q0, q1, q2, q3, q4⟩
    rw [q0, q1, q2, q3, q4]
    exact loop (gI h f 5 - gI h f 4).toNat 0 (by omega)
  · rw [ckE, if_neg c]
  · rw [ckE, if_pos c]
def fV (h : zHp) (a f : Nat) : Int := fVal (gI h (a + 1)) (gI h f 0) (gI h f 1) (gI h f 2) (gI h f 3)
/-- a field in order: it lies in the row, and if it is a check, so does its range -/
def fOk (h : zHp) (a f : Nat) : Prop := fIn h a f ∧ (gI h f 2 = 0 ∨ gI h f 2 = 1 ∨ fCk h a f) ∧ (gI h f 3 = 0 ∨ gI h f 3 = 1)
def fWrong (h : zHp) (a f : Nat) : Prop := 2 ≤ gI h f 2 ∧ fV h a f ≠ fExp h a f
theorem fOk_ck {h : zHp} {a f : Nat} (ho : fOk h a f) (h2 : 2 ≤ gI h f 2) : fCk h a f := by
  rcases ho.2.1 with q | q | q
  · omega
  · omega
  · exact q
theorem sp_X1_isWrong (hd : 2 ≤ d) (hT : zT 369 a = (100, 2)) (hTf : zT 369 f = (103, 8)) (hS : zSh h) (hz : rOk h a) (hb : byOk (gI h (a + 1)) (gI h a 1)) (ho : fOk h a f) (k1 : fWrong h a f → Q (some (vI 1)) h) (k0 : ¬ fWrong h a f → Q (some (vI 0)) h) : wpN G d M_X1_isWrong 0 (zar 0 [vR f, vR a]) [] h Q := by
  refine vc_X1_isWrong_0 f hTf a hT h hS hd (sp_X3_isCheck hTf hS (fun r er => qI_i ⟨hS, fun c => k0 (fun q => ?_), fun c => ?_⟩))
  · rw [if_pos q.1] at er
    omega
  · have h2 : 2 ≤ gI h f 2 := by
      rcases Int.lt_or_le (gI h f 2) 2 with q | q
      · rw [if_neg (by omega)] at er; omega
      · exact q
    refine sp_X0_read hT hTf hS hz hb ho.1 (fun v ev => qL_i ⟨hS, sp_X1_expectedOf (by omega) hT hTf hS hz hb (fOk_ck ho h2) (qI_i ⟨hS, fun c1 => k0 (fun q => q.2 ?_), fun c1 => k1 ⟨h2, fun q => c1 ?_⟩⟩)⟩)
    · rw [← c1, ev]; rfl
    · rw [ev, ← q]; rfl
end CHK
