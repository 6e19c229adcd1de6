/-! shaky hands: chances by weight -/
def lI (a : Nat) : Int64 := Int64.ofNat a
theorem lI_add (a b : Nat) : lI a + lI b = lI (a + b) := (Int64.ofNat_add a b).symm
theorem lI_mul (a b : Nat) : lI a * lI b = lI (a * b) := (Int64.ofNat_mul a b).symm
theorem lI_toInt {a : Nat} (h : a < 2 ^ 63) : (lI a).toInt = a := Int64.toInt_ofNat_of_lt h
theorem lI_eq {a b : Nat} (ha : a < 2 ^ 63) (hb : b < 2 ^ 63) : lI a = lI b ↔ a = b := by
  rw [← Int64.toInt_inj, lI_toInt ha, lI_toInt hb]
  exact Int.ofNat_inj
theorem lI_sub {a b : Nat} (h : b ≤ a) : lI a - lI b = lI (a - b) := by
  have : lI a = lI (a - b) + lI b := by rw [lI_add, Nat.sub_add_cancel h]
  rw [this, Int64.add_sub_cancel]
theorem lI_div {a d : Nat} (ha : a < 2 ^ 63) (h0 : 0 < d) (hd : d < 2 ^ 63) : lI a / lI d = lI (a / d) := by
  have h1 : a / d < 2 ^ 63 := Nat.lt_of_le_of_lt (Nat.div_le_self _ _) ha
  have hne : lI a ≠ Int64.minValue := by
    intro q
    have h3 := congrArg Int64.toInt q
    rw [lI_toInt ha] at h3
    have h2 : (Int64.minValue).toInt = -9223372036854775808 := by decide
    omega
  apply Int64.toInt_inj.mp
  have h4 := Int64.toInt_div_of_ne_left (a := lI a) (b := lI d) hne
  rw [h4, lI_toInt ha, lI_toInt hd, lI_toInt h1]
  exact Int.ofNat_tdiv a d
theorem lI_rem {a d : Nat} (ha : a < 2 ^ 63) (h0 : 0 < d) (hd : d < 2 ^ 63) : lI a - lI a / lI d * lI d = lI (a % d) := by
  rw [lI_div ha h0 hd, lI_mul, lI_sub (Nat.div_mul_le_self a d)]
  congr 1
  have := Nat.div_add_mod a d
  rw [Nat.mul_comm] at this
  omega
theorem lI_i {a : Nat} (h : a < 2 ^ 31) : (nI a).toInt64 = lI a := by
  apply Int64.toInt_inj.mp
  rw [Int32.toInt_toInt64, nI_toInt h, lI_toInt (by omega)]
theorem lc_0 {x y : Int64} (h : lg_cmp x y = 0) : x = y := by
  unfold lg_cmp at h
  by_cases q : x > y
  · rw [if_pos q] at h; exact absurd h (by decide)
  · rw [if_neg q] at h
    by_cases q2 : x = y
    · exact q2
    · rw [if_neg q2] at h; exact absurd h (by decide)
theorem lI_lt {a b : Nat} (ha : a < 2 ^ 63) (hb : b < 2 ^ 63) : lI a < lI b ↔ a < b := by
  rw [Int64.lt_iff_toInt_lt, lI_toInt ha, lI_toInt hb]
  exact Int.ofNat_lt
theorem lc_pos {a : Nat} (h0 : 0 < a) (ha : a < 2 ^ 63) : 0 < lg_cmp (lI a) 0 := by
  have h1 : lI a > (0 : Int64) := (lI_lt (a := 0) (b := a) (by omega) ha).mpr h0
  unfold lg_cmp
  rw [if_pos h1]
  decide
def yj (Y : Int32) (t j : Nat) : Nat := if bt Y j = true then 100 - t else t
theorem yj_le {Y : Int32} {t j : Nat} (ht : t ≤ 100) : yj Y t j ≤ 100 := by
  unfold yj
  split <;> omega
/-- one voter more: chances by weight -/
def AV (D : Nat → Nat) (w0 y w : Nat) : Nat := D w * (100 - y) + (if w0 ≤ w then D (w - w0) else 0) * y
def DC (W : Nat → Nat) (Y : Int32) (t i : Nat) : Nat → Nat → Nat
  | 0 => fun w => if w = W i then 1 else 0
  | k + 1 => AV (DC W Y t i k) (W (i + 1 + k)) (yj Y t (i + 1 + k))
def GC (W : Nat → Nat) (Y : Int32) (t i : Nat) : Nat → (Nat → Nat) → Nat
  | 0, F => F (W i)
  | k + 1, F => GC W Y t i k (fun w => (100 - yj Y t (i + 1 + k)) * F w + yj Y t (i + 1 + k) * F (w + W (i + 1 + k)))
theorem sumr_single {f : Nat → Nat} {a N : Nat} (ha : a < N) (h : ∀ w, w < N → w ≠ a → f w = 0) : sumr f 0 N = f a := by
  have h1 := sumr_one (f := f) (g := fun _ => 0) (a := 0) (t := a) (k := N) (by omega) (by omega) (fun j _ h2 h3 => h j (by omega) h3)
  have h2 : sumr (fun _ => 0) 0 N = 0 := sumr_zero (fun _ _ _ => rfl)
  rw [h2] at h1
  omega
theorem sumr_up {f : Nat → Nat} {a k : Nat} : sumr f (0 + a) k = sumr (fun u => f (a + u)) 0 k := (congrArg (fun z => sumr f z k) (show 0 + a = a + 0 by omega)).trans (sumr_sh (f := f) (a := a) (b := 0) (k := k)).symm
theorem sumr_shift {f : Nat → Nat} {d N : Nat} (hd : d ≤ N) (h : ∀ w, N ≤ w + d → w < N → f w = 0) : sumr (fun w => if d ≤ w then f (w - d) else 0) 0 N = sumr f 0 N := by
  have e1 : N = d + (N - d) := by omega
  have e2 : N = (N - d) + d := by omega
  have h1 : sumr (fun w => if d ≤ w then f (w - d) else 0) 0 N = sumr (fun w => if d ≤ w then f (w - d) else 0) 0 (d + (N - d)) := congrArg _ e1
  have h2 : sumr f 0 N = sumr f 0 ((N - d) + d) := congrArg _ e2
  have g1 : sumr (fun w => if d ≤ w then f (w - d) else 0) 0 d = 0 := sumr_zero (fun j _ q2 => by
    show (if d ≤ j then f (j - d) else 0) = 0
    rw [if_neg (by omega)])
  have g2 : sumr (fun w => if d ≤ w then f (w - d) else 0) (0 + d) (N - d) = sumr f 0 (N - d) := by
    rw [sumr_up (a := d)]
    exact sumr_congr (fun j _ _ => by
      show (if d ≤ d + j then f (d + j - d) else 0) = f j
      rw [if_pos (by omega), show d + j - d = j by omega])
  have g3 : sumr f (0 + (N - d)) d = 0 := sumr_zero (fun j q1 q2 => h j (by omega) (by omega))
  rw [h1, h2, sumr_split, sumr_split, g1, g2, g3]
  omega
theorem DC_0 {W : Nat → Nat} {Y : Int32} {t i : Nat} : ∀ k, (∀ j, j ≤ i + k → W j ≤ 9) → ∀ w, 9 * (k + 1) < w → DC W Y t i k w = 0
  | 0, h, w, hw => by
    have := h i (by omega)
    show (if w = W i then 1 else 0) = 0
    rw [if_neg (by omega)]
  | k + 1, h, w, hw => by
    have h9 := h (i + 1 + k) (by omega)
    have ih := DC_0 (W := W) (Y := Y) (t := t) (i := i) k (fun j hj => h j (by omega))
    show DC W Y t i k w * _ + (if W (i + 1 + k) ≤ w then DC W Y t i k (w - W (i + 1 + k)) else 0) * _ = 0
    rw [ih w (by omega), ih (w - W (i + 1 + k)) (by omega), Nat.zero_mul, ite_self, Nat.zero_mul]
theorem DC_GC {W : Nat → Nat} {Y : Int32} {t i : Nat} : ∀ k, k ≤ 7 → (∀ j, j ≤ i + k → W j ≤ 9) → ∀ F, sumr (fun w => DC W Y t i k w * F w) 0 73 = GC W Y t i k F
  | 0, _, h, F => by
    have h9 := h i (by omega)
    rw [sumr_single (a := W i) (by omega) (fun w _ hw => by
      show (if w = W i then 1 else 0) * F w = 0
      rw [if_neg hw, Nat.zero_mul])]
    show (if W i = W i then 1 else 0) * F (W i) = F (W i)
    rw [if_pos rfl, Nat.one_mul]
  | k + 1, hk, h, F => by
    have h9 := h (i + 1 + k) (by omega)
    have ih := DC_GC (W := W) (Y := Y) (t := t) (i := i) k (by omega) (fun j hj => h j (by omega))
    show _ = GC W Y t i k _
    rw [← ih]
    have e1 : sumr (fun w => DC W Y t i (k + 1) w * F w) 0 73 = sumr (fun w => DC W Y t i k w * ((100 - yj Y t (i + 1 + k)) * F w) + (if W (i + 1 + k) ≤ w then DC W Y t i k (w - W (i + 1 + k)) * (yj Y t (i + 1 + k) * F (w - W (i + 1 + k) + W (i + 1 + k))) else 0)) 0 73 := sumr_congr (fun w _ _ => by
      show (DC W Y t i k w * (100 - yj Y t (i + 1 + k)) + (if W (i + 1 + k) ≤ w then DC W Y t i k (w - W (i + 1 + k)) else 0) * yj Y t (i + 1 + k)) * F w = _
      by_cases q : W (i + 1 + k) ≤ w
      · rw [if_pos q, if_pos q, Nat.add_mul, Nat.mul_assoc, Nat.mul_assoc, Nat.sub_add_cancel q]
      · rw [if_neg q, if_neg q]
        simp only [Nat.zero_mul, Nat.add_zero, Nat.mul_assoc])
    rw [e1, ← sumr_add, sumr_shift (f := fun w => DC W Y t i k w * (yj Y t (i + 1 + k) * F (w + W (i + 1 + k)))) (by omega) (fun w q1 _ => by rw [DC_0 k (fun j hj => h j (by omega)) w (by omega), Nat.zero_mul]), sumr_add]
    exact sumr_congr (fun w _ _ => (Nat.mul_add _ _ _).symm)
theorem GC_le {W : Nat → Nat} {Y : Int32} {t i : Nat} (ht : t ≤ 100) : ∀ k F c, (∀ w, F w ≤ c) → GC W Y t i k F ≤ c * 100 ^ k
  | 0, F, c, h => by
    show F (W i) ≤ c * 1
    rw [Nat.mul_one]
    exact h _
  | k + 1, F, c, h => by
    have hy := yj_le (Y := Y) (t := t) (j := i + 1 + k) ht
    have ih := GC_le (W := W) (Y := Y) (t := t) (i := i) ht k (fun w => (100 - yj Y t (i + 1 + k)) * F w + yj Y t (i + 1 + k) * F (w + W (i + 1 + k))) (c * 100) (fun w => by
      have h1 := Nat.mul_le_mul_left (100 - yj Y t (i + 1 + k)) (h w)
      have h2 := Nat.mul_le_mul_left (yj Y t (i + 1 + k)) (h (w + W (i + 1 + k)))
      have h3 : (100 - yj Y t (i + 1 + k)) * c + yj Y t (i + 1 + k) * c = c * 100 := by rw [← Nat.add_mul, show 100 - yj Y t (i + 1 + k) + yj Y t (i + 1 + k) = 100 by omega, Nat.mul_comm]
      show (100 - yj Y t (i + 1 + k)) * F w + yj Y t (i + 1 + k) * F (w + W (i + 1 + k)) ≤ c * 100
      omega)
    show GC W Y t i k _ ≤ c * 100 ^ (k + 1)
    rw [Nat.pow_succ, Nat.mul_comm (100 ^ k) 100, ← Nat.mul_assoc]
    exact ih
/-- the reference: a set of those whose vote is turned -/
def PI_ (S : Nat → Bool) (t i : Nat) : Nat → Nat
  | 0 => 1
  | k + 1 => PI_ S t i k * (if S (i + 1 + k) = true then t else 100 - t)
def WX (W : Nat → Nat) (Y : Int32) (S : Nat → Bool) (i k : Nat) : Nat := W i + sumr (fun j => if (bt Y j ^^ S j) = true then W j else 0) (i + 1) k
theorem WX_s {W : Nat → Nat} {Y : Int32} {S : Nat → Bool} {i k : Nat} : WX W Y S i (k + 1) = WX W Y S i k + (if (bt Y (i + 1 + k) ^^ S (i + 1 + k)) = true then W (i + 1 + k) else 0) := (Nat.add_assoc _ _ _).symm
theorem PI_c {S T : Nat → Bool} {t i : Nat} : ∀ k, (∀ j, j < i + 1 + k → S j = T j) → PI_ S t i k = PI_ T t i k
  | 0, _ => rfl
  | k + 1, h => by
    show PI_ S t i k * (if S (i + 1 + k) = true then t else 100 - t) = PI_ T t i k * (if T (i + 1 + k) = true then t else 100 - t)
    rw [PI_c k (fun j hj => h j (by omega)), h (i + 1 + k) (by omega)]
theorem WX_c {W : Nat → Nat} {Y : Int32} {S T : Nat → Bool} {i k : Nat} (h : ∀ j, j < i + 1 + k → S j = T j) : WX W Y S i k = WX W Y T i k := by
  unfold WX
  congr 1
  exact sumr_congr (fun j _ h2 => by rw [h j h2])
theorem SC_GC {W : Nat → Nat} {Y : Int32} {t i : Nat} (ht : t ≤ 100) : ∀ k F, sumr (fun s => if s % 2 ^ (i + 1) = 0 then PI_ s.testBit t i k * F (WX W Y s.testBit i k) else 0) 0 (2 ^ (i + 1 + k)) = GC W Y t i k F
  | 0, F => by
    have hp : 0 < 2 ^ (i + 1) := Nat.two_pow_pos (i + 1)
    rw [Nat.add_zero, sumr_single (a := 0) hp (fun s hs h0 => by rw [Nat.mod_eq_of_lt hs, if_neg h0])]
    rw [Nat.zero_mod, if_pos rfl]
    show 1 * F (W i + 0) = F (W i)
    rw [Nat.one_mul, Nat.add_zero]
  | k + 1, F => by
    have ih := SC_GC (W := W) (Y := Y) (t := t) (i := i) ht k
    show _ = GC W Y t i k _
    have hp : 2 ^ (i + 1 + (k + 1)) = 2 ^ (i + 1 + k) + 2 ^ (i + 1 + k) := by rw [show i + 1 + (k + 1) = (i + 1 + k) + 1 by omega, Nat.pow_succ, Nat.mul_two]
    rw [← ih, hp, sumr_split, sumr_up (a := 2 ^ (i + 1 + k)), sumr_add]
    refine sumr_congr (fun s _ hs => ?_)
    rw [Nat.zero_add] at hs
    have hm : (2 ^ (i + 1 + k) + s) % 2 ^ (i + 1) = s % 2 ^ (i + 1) := by
      rw [show 2 ^ (i + 1 + k) = 2 ^ (i + 1) * 2 ^ k from Nat.pow_add 2 (i + 1) k, Nat.add_comm, Nat.add_mul_mod_self_left]
    have b0 : s.testBit (i + 1 + k) = false := Nat.testBit_lt_two_pow hs
    have b1 : (2 ^ (i + 1 + k) + s).testBit (i + 1 + k) = true := by rw [Nat.testBit_two_pow_add_eq, b0]; rfl
    have bl : ∀ j, j < i + 1 + k → (2 ^ (i + 1 + k) + s).testBit j = s.testBit j := fun j hj => Nat.testBit_two_pow_add_gt hj s
    rw [hm]
    by_cases e : s % 2 ^ (i + 1) = 0
    · rw [if_pos e, if_pos e, if_pos e]
      show PI_ s.testBit t i k * (if s.testBit (i + 1 + k) = true then t else 100 - t) * F (WX W Y s.testBit i (k + 1)) + PI_ (2 ^ (i + 1 + k) + s).testBit t i k * (if (2 ^ (i + 1 + k) + s).testBit (i + 1 + k) = true then t else 100 - t) * F (WX W Y (2 ^ (i + 1 + k) + s).testBit i (k + 1)) = PI_ s.testBit t i k * ((100 - yj Y t (i + 1 + k)) * F (WX W Y s.testBit i k) + yj Y t (i + 1 + k) * F (WX W Y s.testBit i k + W (i + 1 + k)))
      rw [WX_s, WX_s, WX_c bl, PI_c k bl, b0, b1, if_neg (by decide : ¬ false = true), if_pos (rfl : true = true), Nat.mul_assoc, Nat.mul_assoc, ← Nat.mul_add]
      congr 1
      unfold yj
      by_cases hy : bt Y (i + 1 + k) = true
      · rw [hy, if_pos (rfl : true = true), if_pos (by decide : (true ^^ false) = true), if_neg (by decide : ¬ (true ^^ true) = true), Nat.add_zero (WX W Y s.testBit i k), show 100 - (100 - t) = t by omega, Nat.add_comm]
      · rw [Bool.eq_false_iff.mpr hy, if_neg (by decide : ¬ false = true), if_neg (by decide : ¬ (false ^^ false) = true), if_pos (by decide : (false ^^ true) = true), Nat.add_zero (WX W Y s.testBit i k)]
    · rw [if_neg e, if_neg e, if_neg e]
theorem bnd_mod {n i s : Nat} (hs : s < 2 ^ n) : BND n i s ↔ s % 2 ^ (i + 1) = 0 := by
  constructor
  · intro h
    apply Nat.eq_of_testBit_eq
    intro q
    rw [Nat.testBit_mod_two_pow, Nat.zero_testBit]
    cases hb : s.testBit q with
    | false => exact Bool.and_false _
    | true =>
      have := h q hb
      rw [decide_eq_false (by omega)]
      rfl
  · intro h q hq
    refine ⟨Nat.lt_of_not_le fun z => ?_, Nat.lt_of_not_le fun z => ?_⟩
    · have h1 : (s % 2 ^ (i + 1)).testBit q = true := by
        rw [Nat.testBit_mod_two_pow, hq, decide_eq_true (by omega)]
        rfl
      rw [h, Nat.zero_testBit] at h1
      exact absurd h1 (by decide)
    · rw [Nat.testBit_lt_two_pow (Nat.lt_of_lt_of_le hs (Nat.pow_le_pow_right (by omega) z))] at hq
      exact absurd hq (by decide)
/-- above the line -/
def UPN (n : Nat) (W : Nat → Nat) (law : Int32) (Y : Int32) (t i : Nat) : Nat := GC W Y t i (n - 1 - i) (fun w => if nd law (sumr W i (n - i)) ≤ w then 1 else 0)
theorem UPN_x {n : Nat} {W : Nat → Nat} {law Y : Int32} {t i : Nat} (hi : i < n) (hn : n ≤ 8) (hW : ∀ j, j < n → W j ≤ 9) : sumr (fun w => if nd law (sumr W i (n - i)) ≤ w then DC W Y t i (n - 1 - i) w else 0) 0 73 = UPN n W law Y t i := by
  unfold UPN
  rw [← DC_GC (n - 1 - i) (by omega) (fun j hj => hW j (by omega))]
  exact sumr_congr (fun w _ _ => by
    by_cases q : nd law (sumr W i (n - i)) ≤ w
    · rw [if_pos q, if_pos q, Nat.mul_one]
    · rw [if_neg q, if_neg q, Nat.mul_zero])
def FSH (n : Nat) (W : Nat → Nat) (law Y : Int32) (t i s : Nat) : Nat := if s % 2 ^ (i + 1) = 0 ∧ nd law (sumr W i (n - i)) ≤ WX W Y s.testBit i (n - 1 - i) then PI_ s.testBit t i (n - 1 - i) else 0
theorem UPN_m {n : Nat} {W : Nat → Nat} {law Y : Int32} {t i : Nat} (hi : i < n) (ht : t ≤ 100) : sumr (FSH n W law Y t i) 0 (2 ^ n) = UPN n W law Y t i := by
  unfold UPN
  rw [← SC_GC ht (n - 1 - i), show i + 1 + (n - 1 - i) = n by omega]
  exact sumr_congr (fun s _ _ => by
    unfold FSH
    by_cases q1 : s % 2 ^ (i + 1) = 0
    · by_cases q2 : nd law (sumr W i (n - i)) ≤ WX W Y s.testBit i (n - 1 - i)
      · rw [if_pos ⟨q1, q2⟩, if_pos q1, if_pos q2, Nat.mul_one]
      · rw [if_neg (fun z => q2 z.2), if_pos q1, if_neg q2, Nat.mul_zero]
    · rw [if_neg (fun z => q1 z.1), if_neg q1])
theorem UPN_le {n : Nat} {W : Nat → Nat} {law Y : Int32} {t i : Nat} (ht : t ≤ 100) : UPN n W law Y t i ≤ 100 ^ (n - 1 - i) := by
  have := GC_le (W := W) (Y := Y) (i := i) ht (n - 1 - i) (fun w => if nd law (sumr W i (n - i)) ≤ w then 1 else 0) 1 (fun w => by
    show (if nd law (sumr W i (n - i)) ≤ w then 1 else 0) ≤ 1
    split <;> omega)
  unfold UPN
  omega
theorem sh_yw {n i s : Nat} {W : Nat → Nat} {Y x : Int32} (hi : i < n) (hn : n ≤ 8) (hs : s < 2 ^ n) (hB : BND n i s) (hY : ∀ q, q < n → q ≤ i → bt Y q = decide (q = i)) (hx : x = Y ^^^ nI s) : yw W x 0 n = WX W Y s.testBit i (n - 1 - i) := by
  have h8 := p28 hn
  have hb : ∀ q, q < n → bt x q = (bt Y q ^^ s.testBit q) := fun q hq => by rw [hx, b_xor, b_get (by omega) (by omega)]
  have h0 : ∀ q, q ≤ i → s.testBit q = false := fun q hq => Bool.eq_false_iff.mpr (fun z => by have := hB q z; omega)
  rw [yw_from (Nat.le_of_lt hi) (fun q hq => by rw [hb q (by omega), hY q (by omega) (by omega), h0 q (by omega), decide_eq_false (by omega)]; rfl)]
  unfold yw WX
  rw [show n - i = (n - 1 - i) + 1 by omega, sumr_cons, hb i hi, hY i hi (Nat.le_refl i), h0 i (Nat.le_refl i), decide_eq_true (rfl : i = i), if_pos (by decide : (true ^^ false) = true)]
  congr 1
  exact sumr_congr (fun q h1 h2 => by rw [hb q (by omega)])
/-- Euclid's steps -/
theorem eu_s {a b x y k : Nat} (hy : 0 < y) (hk : k = 0 ∨ y ≤ x) (h : x * y * 2 ^ k ≤ 2 * (a * b)) (h0 : k = 0 → x * y = a * b) : y * (x % y) * 2 ^ (k + 1) ≤ 2 * (a * b) := by
  have hm := Nat.mod_lt x hy
  by_cases e : y ≤ x
  · have h1 : 2 * (x % y) ≤ x := by
      have h2 := Nat.div_add_mod x y
      have h3 : y ≤ y * (x / y) := Nat.le_mul_of_pos_right y (Nat.div_pos e hy)
      omega
    have h4 : y * (x % y) * 2 ≤ x * y := by
      rw [Nat.mul_assoc, Nat.mul_comm (x % y) 2, Nat.mul_comm x y]
      exact Nat.mul_le_mul_left y h1
    rw [Nat.pow_succ, Nat.mul_comm (2 ^ k) 2, ← Nat.mul_assoc]
    exact Nat.le_trans (Nat.mul_le_mul_right (2 ^ k) h4) h
  · have hk0 : k = 0 := hk.resolve_right e
    subst hk0
    rw [Nat.mod_eq_of_lt (by omega), Nat.mul_comm y x, h0 rfl, Nat.mul_comm]
    exact Nat.le_refl _
theorem eu_e {a b x y : Nat} (hx : 0 < x) (hy : 0 < y) (hab : a * b < 2 ^ 99) (h : x * y * 2 ^ 100 ≤ 2 * (a * b)) : False := by
  have h1 : 1 ≤ x * y := Nat.mul_pos hx hy
  have h2 := Nat.mul_le_mul_right (2 ^ 100) h1
  omega
/-- shaken: the answer -/
def SHV (a1 : Int32) (u d : Nat) : Int64 := lI ((if a1 = 0 then u else d) / Nat.gcd u d)
noncomputable def rShk (n sn : Nat) (dn : Int32) (K F W S5 : Nat → Nat) (a1 : Int32) : Int64 := if a1 < 0 ∨ 1 < a1 then 4000000000000000002 else if OVR n dn then 4000000000000000003 else SHV a1 (UPN n W (nI (S5 1)) (zY (PO n K F W S5) sn) (S5 4) sn) (100 ^ (n - 1 - sn))
theorem PI_le {S : Nat → Bool} {t i : Nat} (ht : t ≤ 100) : ∀ k, PI_ S t i k ≤ 100 ^ k
  | 0 => Nat.le_refl 1
  | k + 1 => by
    show PI_ S t i k * (if S (i + 1 + k) = true then t else 100 - t) ≤ 100 ^ (k + 1)
    rw [Nat.pow_succ]
    exact Nat.mul_le_mul (PI_le ht k) (by split <;> omega)
theorem isq_y {v r : Int32} (h : r = if v < 0 then 0 else if 1 < v then 0 else 1) (hr : ¬ r = 0) : ¬ (v < 0 ∨ 1 < v) := by
  rintro (q | q)
  · rw [if_pos q] at h; exact hr h
  · by_cases q2 : v < 0
    · rw [if_pos q2] at h; exact hr h
    · rw [if_neg q2, if_pos q] at h; exact hr h
theorem isq_n {v r : Int32} (h : r = if v < 0 then 0 else if 1 < v then 0 else 1) (hr : r = 0) : v < 0 ∨ 1 < v := by
  by_cases q : v < 0
  · exact Or.inl q
  · by_cases q2 : 1 < v
    · exact Or.inr q2
    · rw [if_neg q, if_neg q2, hr] at h
      exact absurd h (by decide)
