/-! Both sides alike: counting bits -/
def f_uN (x : Int64) : Nat := x.toUInt64.toNat
theorem f_uN_lt (x : Int64) : f_uN x < 2 ^ 64 := x.toUInt64.toNat_lt
theorem f_uN_and (x y : Int64) : f_uN (x &&& y) = f_uN x &&& f_uN y := by unfold f_uN; rw [Int64.toUInt64_and, UInt64.toNat_and]
theorem f_uN_add (x y : Int64) : f_uN (x + y) = (f_uN x + f_uN y) % 2 ^ 64 := by unfold f_uN; rw [Int64.toUInt64_add, UInt64.toNat_add]
theorem f_uN_sub {x y : Int64} (h : f_uN y ≤ f_uN x) : f_uN (x - y) = f_uN x - f_uN y := by
  unfold f_uN at *; rw [Int64.toUInt64_sub, UInt64.toNat_sub_of_le _ _ (UInt64.le_iff_toNat_le.mpr h)]
theorem f_uN_sr {x : Int64} {s : Nat} (hs : s < 64) : f_uN (f_sr x (nI s)) = f_uN x / 2 ^ s := by
  have e9 := f_sra s hs
  have e8 : ((nI s).toInt64.toUInt64 &&& Int64.toUInt64 63).toNat % 64 = s := by
    have e7 := congrArg BitVec.toNat e9
    rw [BitVec.toNat_umod, BitVec.toNat_ofNat, Nat.mod_eq_of_lt (show s < 2 ^ 64 by omega)] at e7
    exact e7
  unfold f_uN f_sr
  show (x.toUInt64 >>> ((nI s).toInt64.toUInt64 &&& Int64.toUInt64 63)).toNat = _
  rw [UInt64.toNat_shiftRight, e8, Nat.shiftRight_eq_div_pow]
theorem f_land256 {a c : Nat} (b d : Nat) (ha : a < 256) (hc : c < 256) : (a + 256 * b) &&& (c + 256 * d) = (a &&& c) + 256 * (b &&& d) := by
  have e1 : (a &&& c) < 2 ^ 8 := Nat.and_lt_two_pow a hc
  apply Nat.eq_of_testBit_eq
  intro i
  have key : ∀ (u v : Nat), u < 2 ^ 8 → (u + 256 * v).testBit i = if i < 8 then u.testBit i else v.testBit (i - 8) := by
    intro u v hu
    rw [Nat.add_comm, show 256 = 2 ^ 8 from rfl, Nat.testBit_two_pow_mul_add _ hu]
  rw [Nat.testBit_and, key a b ha, key c d hc, key _ _ e1]
  by_cases hi : i < 8
  · rw [if_pos hi, if_pos hi, if_pos hi, Nat.testBit_and]
  · rw [if_neg hi, if_neg hi, if_neg hi, Nat.testBit_and]
def f_mk8 (m : Nat) : Nat → Nat
  | 0 => 0
  | t + 1 => m + 256 * f_mk8 m t
def f_s1 (t u : Nat) : Nat := u - ((u / 2) &&& f_mk8 85 t)
def f_s2 (t u : Nat) : Nat := (u &&& f_mk8 51 t) + ((u / 4) &&& f_mk8 51 t)
def f_s3 (t u : Nat) : Nat := (u + u / 16) &&& f_mk8 15 t
theorem f_b1 : ∀ a, a < 256 → ∀ c, c < 2 → ((a / 2 + 128 * c) &&& 85) = ((a / 2) &&& 85) ∧ ((a / 2) &&& 85) ≤ a := by decide +kernel
theorem f_b2 : ∀ a, a < 256 → ∀ c, c < 4 → ((a / 4 + 64 * c) &&& 51) = ((a / 4) &&& 51) := by decide +kernel
def f_g1 (a : Nat) : Nat := a - ((a / 2) &&& 85)
def f_g2 (a : Nat) : Nat := (a &&& 51) + ((a / 4) &&& 51)
def f_g3 (a : Nat) : Nat := (a + a / 16) &&& 15
theorem f_b3 : ∀ a, a < 256 → f_g1 a < 256 ∧ f_g2 (f_g1 a) < 69 ∧ f_g2 (f_g1 a) % 16 ≤ 4 ∧ f_g3 (f_g2 (f_g1 a)) = f_pc 8 a ∧ f_g3 (f_g2 (f_g1 a)) ≤ 8 := by decide +kernel
theorem f_b4 : ∀ a, a < 69 → a % 16 ≤ 4 → ∀ c, c < 5 → ((a + a / 16 + 16 * c) &&& 15) = f_g3 a := by decide +kernel
theorem f_s1_step (t a b : Nat) (ha : a < 256) : f_s1 (t + 1) (a + 256 * b) = f_g1 a + 256 * f_s1 t b ∧ ((b / 2) &&& f_mk8 85 t) ≤ b := by
  have h1 := f_b1 a ha (b % 2) (by omega)
  have hle : ((b / 2) &&& f_mk8 85 t) ≤ b := Nat.le_trans Nat.and_le_left (Nat.div_le_self _ _)
  refine ⟨?_, hle⟩
  unfold f_s1 f_g1
  rw [f_mk8, show (a + 256 * b) / 2 = (a / 2 + 128 * (b % 2)) + 256 * (b / 2) by omega, f_land256 _ _ (by omega) (by decide), h1.1]
  have h2 := h1.2
  omega
theorem f_s2_step (t a b : Nat) (ha : a < 256) : f_s2 (t + 1) (a + 256 * b) = f_g2 a + 256 * f_s2 t b := by
  have h1 := f_b2 a ha (b % 4) (by omega)
  unfold f_s2 f_g2
  rw [f_mk8, show (a + 256 * b) / 4 = (a / 4 + 64 * (b % 4)) + 256 * (b / 4) by omega, f_land256 (a := a) (c := 51) _ _ ha (by decide), f_land256 (a := a / 4 + 64 * (b % 4)) (c := 51) _ _ (by omega) (by decide), h1]
  omega
theorem f_s3_step (t a b : Nat) (ha : a < 69) (ha2 : a % 16 ≤ 4) (hb : b % 16 ≤ 4) : f_s3 (t + 1) (a + 256 * b) = f_g3 a + 256 * f_s3 t b := by
  have h1 := f_b4 a ha ha2 (b % 16) (by omega)
  unfold f_s3
  rw [f_mk8, show a + 256 * b + (a + 256 * b) / 16 = (a + a / 16 + 16 * (b % 16)) + 256 * (b + b / 16) by omega, f_land256 _ _ (by omega) (by decide), h1]
/-- the counts of t bytes -/
def f_p8 : Nat → Nat → Nat
  | 0, _ => 0
  | t + 1, u => f_pc 8 (u % 256) + 256 * f_p8 t (u / 256)
theorem f_s123 : ∀ t u, u < 256 ^ t → f_s2 t (f_s1 t u) % 16 ≤ 4 ∧ f_s3 t (f_s2 t (f_s1 t u)) = f_p8 t u := by
  intro t
  induction t with
  | zero => intro u hu; rw [show u = 0 by omega]; decide
  | succ t ih =>
    intro u hu
    rw [Nat.pow_succ] at hu
    have h1 := ih (u / 256) (by omega)
    have h3 := f_b3 (u % 256) (by omega)
    obtain ⟨a, ea⟩ : ∃ a, a = u % 256 := ⟨_, rfl⟩
    obtain ⟨b, eb⟩ : ∃ b, b = u / 256 := ⟨_, rfl⟩
    have eu : u = a + 256 * b := by omega
    rw [f_p8, ← ea, ← eb]
    rw [← ea] at h3
    rw [← eb] at h1
    rw [eu, (f_s1_step t a b (by omega)).1, f_s2_step t _ _ h3.1, f_s3_step t _ _ h3.2.1 h3.2.2.1 h1.1, h1.2, h3.2.2.2.1]
    refine ⟨by have := h3.2.2.1; omega, rfl⟩
theorem f_pc_8 (t n : Nat) : f_pc (t + 8) n = f_pc 8 (n % 256) + f_pc t (n / 256) := by
  simp only [f_pc]
  rw [show n / 2 / 2 / 2 / 2 / 2 / 2 / 2 / 2 = n / 256 by omega]
  omega
theorem f_p8_sum (u : Nat) (hu : u < 256 ^ 8) : ∃ a b c d e f g h : Nat, a ≤ 8 ∧ b ≤ 8 ∧ c ≤ 8 ∧ d ≤ 8 ∧ e ≤ 8 ∧ f ≤ 8 ∧ g ≤ 8 ∧ h ≤ 8 ∧ f_p8 8 u = a + 256 * (b + 256 * (c + 256 * (d + 256 * (e + 256 * (f + 256 * (g + 256 * h)))))) ∧ f_pc 64 u = a + b + c + d + e + f + g + h := by
  have hb : ∀ m, f_pc 8 m ≤ 8 := fun m => f_pc_le 8 m
  refine ⟨_, _, _, _, _, _, _, _, hb (u % 256), hb (u / 256 % 256), hb (u / 256 / 256 % 256), hb (u / 256 / 256 / 256 % 256), hb (u / 256 / 256 / 256 / 256 % 256), hb (u / 256 / 256 / 256 / 256 / 256 % 256), hb (u / 256 / 256 / 256 / 256 / 256 / 256 % 256), hb (u / 256 / 256 / 256 / 256 / 256 / 256 / 256 % 256), ?_, ?_⟩
  · simp only [f_p8, Nat.mul_zero, Nat.add_zero]
  · have q8 : ∀ n, f_pc 8 n = f_pc 8 (n % 256) + f_pc 0 (n / 256) := f_pc_8 0
    rw [f_pc_8 56, f_pc_8 48, f_pc_8 40, f_pc_8 32, f_pc_8 24, f_pc_8 16, f_pc_8 8, q8 (u / 256 / 256 / 256 / 256 / 256 / 256 / 256)]
    rw [show f_pc 0 (u / 256 / 256 / 256 / 256 / 256 / 256 / 256 / 256) = 0 from rfl]
    omega

theorem f_bcL_pop (x : Int64) : f_bcL x = nI (f_pop x) := by
  have hx := f_uN_lt x
  obtain ⟨hs, h8⟩ := f_s123 8 (f_uN x) (by rw [show (256 : Nat) ^ 8 = 2 ^ 64 from rfl]; exact hx)
  obtain ⟨a, b, c, d, e, f, g, h, ha, hb, hc, hd, he, hf, hg, hh, hp, hq⟩ := f_p8_sum (f_uN x) (by rw [show (256 : Nat) ^ 8 = 2 ^ 64 from rfl]; exact hx)
  have k1 : f_uN (f_bcL1 x) = f_s1 8 (f_uN x) := by
    unfold f_bcL1 f_s1
    have e1 : f_uN (f_sr x 1 &&& 6148914691236517205) = (f_uN x / 2) &&& f_mk8 85 8 := by
      rw [f_uN_and, show (1 : Int32) = nI 1 from rfl, f_uN_sr (by decide)]; rfl
    rw [f_uN_sub (by rw [e1]; exact Nat.le_trans Nat.and_le_left (Nat.div_le_self _ _)), e1]
  have k2 : f_uN (f_bcL2 (f_bcL1 x)) = f_s2 8 (f_s1 8 (f_uN x)) := by
    unfold f_bcL2
    rw [f_uN_add, f_uN_and, f_uN_and, show (2 : Int32) = nI 2 from rfl, f_uN_sr (by decide), k1]
    show (_ + _) % 2 ^ 64 = _
    have e1 : (f_s1 8 (f_uN x) &&& f_uN 3689348814741910323) = (f_s1 8 (f_uN x) &&& f_mk8 51 8) := rfl
    have e2 : (f_s1 8 (f_uN x) / 2 ^ 2 &&& f_uN 3689348814741910323) = (f_s1 8 (f_uN x) / 4 &&& f_mk8 51 8) := rfl
    rw [e1, e2]
    have l1 : (f_s1 8 (f_uN x) &&& f_mk8 51 8) ≤ f_mk8 51 8 := Nat.and_le_right
    have l2 : (f_s1 8 (f_uN x) / 4 &&& f_mk8 51 8) ≤ f_mk8 51 8 := Nat.and_le_right
    have l3 : f_mk8 51 8 = 3689348814741910323 := rfl
    rw [Nat.mod_eq_of_lt (by omega)]; rfl
  have l2 : f_s2 8 (f_s1 8 (f_uN x)) ≤ 7378697629483820646 := by
    unfold f_s2
    have l1 : (f_s1 8 (f_uN x) &&& f_mk8 51 8) ≤ f_mk8 51 8 := Nat.and_le_right
    have l2 : (f_s1 8 (f_uN x) / 4 &&& f_mk8 51 8) ≤ f_mk8 51 8 := Nat.and_le_right
    have l3 : f_mk8 51 8 = 3689348814741910323 := rfl
    omega
  have k3 : f_uN (f_bcL3 (f_bcL2 (f_bcL1 x))) = f_p8 8 (f_uN x) := by
    unfold f_bcL3
    rw [f_uN_and, f_uN_add, show (4 : Int32) = nI 4 from rfl, f_uN_sr (by decide), k2, Nat.mod_eq_of_lt (by omega), ← h8]
    rfl
  have k4 : f_uN (f_bcL6 (f_bcL5 (f_bcL4 (f_bcL3 (f_bcL2 (f_bcL1 x)))))) % 128 = a + b + c + d + e + f + g + h := by
    obtain ⟨z, ez⟩ : ∃ z, z = f_bcL3 (f_bcL2 (f_bcL1 x)) := ⟨_, rfl⟩
    rw [← ez] at k3 ⊢
    rw [hp] at k3
    have m4 : f_uN (f_bcL4 z) = f_uN z + f_uN z / 256 := by
      unfold f_bcL4; rw [f_uN_add, show (8 : Int32) = nI 8 from rfl, f_uN_sr (by decide), show (2 : Nat) ^ 8 = 256 from rfl, Nat.mod_eq_of_lt (by omega)]
    have m5 : f_uN (f_bcL5 (f_bcL4 z)) = f_uN (f_bcL4 z) + f_uN (f_bcL4 z) / 65536 := by
      unfold f_bcL5; rw [f_uN_add, show (16 : Int32) = nI 16 from rfl, f_uN_sr (by decide), show (2 : Nat) ^ 16 = 65536 from rfl, Nat.mod_eq_of_lt (by omega)]
    have m6 : f_uN (f_bcL6 (f_bcL5 (f_bcL4 z))) = f_uN (f_bcL5 (f_bcL4 z)) + f_uN (f_bcL5 (f_bcL4 z)) / 4294967296 := by
      unfold f_bcL6; rw [f_uN_add, show (32 : Int32) = nI 32 from rfl, f_uN_sr (by decide), show (2 : Nat) ^ 32 = 4294967296 from rfl, Nat.mod_eq_of_lt (by omega)]
    have q1 : f_uN z / 256 = b + 256 * (c + 256 * (d + 256 * (e + 256 * (f + 256 * (g + 256 * h))))) := by rw [k3]; clear m4 m5 m6 k3 l2 k2 k1 h8 hs hp hq hx; omega
    have q2 : f_uN (f_bcL4 z) / 65536 = (c + d) + 256 * ((d + e) + 256 * ((e + f) + 256 * ((f + g) + 256 * ((g + h) + 256 * h)))) := by rw [m4, q1, k3]; clear m4 m5 m6 k3 l2 k2 k1 h8 hs hp hq hx q1; omega
    have q3 : f_uN (f_bcL5 (f_bcL4 z)) / 4294967296 = (e + f + g + h) + 256 * ((f + g + h) + 256 * ((g + h) + 256 * h)) := by rw [m5, q2, m4, q1, k3]; clear m4 m5 m6 k3 l2 k2 k1 h8 hs hp hq hx q1 q2; omega
    rw [m6, q3, m5, q2, m4, q1, k3]
    clear m4 m5 m6 k3 l2 k2 k1 h8 hs hp hq hx q1 q2 q3
    omega
  have k5 : ∀ z : Int64, z.toInt32 &&& 127 = nI (f_uN z % 128) := by
    intro z
    apply Int32.toBitVec_inj.mp
    rw [Int32.toBitVec_and]
    apply BitVec.eq_of_toNat_eq
    have e1 : z.toInt32.toBitVec.toNat = f_uN z % 2 ^ 32 := by
      show (z.toBitVec.signExtend 32).toNat = _
      rw [BitVec.signExtend_eq_setWidth_of_le _ (by decide), BitVec.toNat_setWidth]; rfl
    rw [BitVec.toNat_and, e1]
    unfold nI
    rw [Int32.toBitVec_ofNat', BitVec.toNat_ofNat]
    show (f_uN z % 2 ^ 32) &&& (2 ^ 7 - 1) = _
    rw [Nat.and_two_pow_sub_one_eq_mod]
    omega
  unfold f_bcL
  rw [k5, k4]
  unfold f_pop
  rw [← hq]; rfl
