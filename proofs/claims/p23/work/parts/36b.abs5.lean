/-! how many bits a long has: the JDK's sums and the reference's loop (my own) -/
def pcf : Nat → Nat → Nat
  | 0, _ => 0
  | k + 1, x => x % 2 + pcf k (x / 2)
theorem pcf_le : ∀ k x, pcf k x ≤ k
  | 0, _ => Nat.le_refl 0
  | k + 1, x => by
    have := pcf_le k (x / 2)
    rw [pcf]
    omega
theorem pcf_0 : ∀ k, pcf k 0 = 0
  | 0 => rfl
  | k + 1 => by
    rw [pcf, show 0 / 2 = 0 from rfl, pcf_0 k]
theorem pcf_add : ∀ a b x, pcf (a + b) x = pcf a x + pcf b (x / 2 ^ a)
  | 0, b, x => by
    rw [Nat.zero_add, Nat.pow_zero, Nat.div_one]
    exact (Nat.zero_add _).symm
  | a + 1, b, x => by
    rw [show a + 1 + b = (a + b) + 1 by omega, pcf, pcf, pcf_add a b (x / 2), Nat.div_div_eq_div_mul, ← Nat.pow_succ', Nat.add_assoc]
theorem pcf_mod : ∀ k x, pcf k (x % 2 ^ k) = pcf k x
  | 0, _ => rfl
  | k + 1, x => by
    rw [pcf, pcf, Nat.pow_succ', Nat.mod_mul_right_mod, Nat.mod_mul_right_div_self, pcf_mod k]
theorem and_even {x y : Nat} (h : ¬ (x % 2 = 1 ∧ y % 2 = 1)) : (x &&& y) % 2 = 0 := by
  rcases Nat.mod_two_eq_zero_or_one (x &&& y) with q | q
  · exact q
  · exact absurd (Nat.and_mod_two_eq_one.mp q) h
theorem pcf_kern : ∀ k x, 0 < x → x < 2 ^ k → pcf k (x &&& (x - 1)) + 1 = pcf k x
  | 0, x, h0, h => absurd h (by rw [Nat.pow_zero]; omega)
  | k + 1, x, h0, h => by
    have e1 : (x &&& (x - 1)) % 2 = 0 := and_even (by omega)
    rw [pcf, pcf, Nat.and_div_two, e1]
    by_cases o : x % 2 = 1
    · rw [show (x - 1) / 2 = x / 2 by omega, Nat.and_self, o]
      omega
    · have ih := pcf_kern k (x / 2) (by omega) (by rw [Nat.pow_succ] at h; omega)
      rw [show (x - 1) / 2 = x / 2 - 1 by omega, show x % 2 = 0 by omega]
      omega
theorem and_split (X m M : Nat) (hm : m < 256) : X &&& (m + 256 * M) = (X % 256 &&& m) + 256 * (X / 256 &&& M) := by
  have a : (X &&& (m + 256 * M)) % 2 ^ 8 = (X % 2 ^ 8) &&& ((m + 256 * M) % 2 ^ 8) := Nat.and_mod_two_pow
  have b : (X &&& (m + 256 * M)) / 2 ^ 8 = X / 2 ^ 8 &&& (m + 256 * M) / 2 ^ 8 := Nat.and_div_two_pow
  rw [show (2 : Nat) ^ 8 = 256 from rfl] at a b
  rw [show (m + 256 * M) % 256 = m by omega] at a
  rw [show (m + 256 * M) / 256 = M by omega] at b
  have c := Nat.mod_add_div (X &&& (m + 256 * M)) 256
  rw [a, b] at c
  exact c.symm
theorem and_low (X m s p : Nat) (hp : 2 ^ s = p) (hm : m < p) : X &&& m = X % p &&& m := by
  have a : (X &&& m) % 2 ^ s = (X % 2 ^ s) &&& (m % 2 ^ s) := Nat.and_mod_two_pow
  rw [hp, Nat.mod_eq_of_lt hm, Nat.mod_eq_of_lt (Nat.lt_of_le_of_lt Nat.and_le_right hm)] at a
  exact a
def mkb (m : Nat) : Nat → Nat
  | 0 => 0
  | k + 1 => m + 256 * mkb m k
def apb (g : Nat → Nat) : Nat → Nat → Nat
  | 0, _ => 0
  | k + 1, n => g (n % 256) + 256 * apb g k (n / 256)
theorem apb_lt {g : Nat → Nat} (hg : ∀ a, a < 256 → g a < 256) : ∀ k n, apb g k n < 256 ^ k
  | 0, _ => Nat.one_pos
  | k + 1, n => by
    have h1 := hg (n % 256) (Nat.mod_lt _ (by decide))
    have h2 := apb_lt hg k (n / 256)
    rw [apb, Nat.pow_succ]
    omega
theorem apb_cong {f g : Nat → Nat} (h : ∀ a, a < 256 → f a = g a) : ∀ k n, apb f k n = apb g k n
  | 0, _ => rfl
  | k + 1, n => by
    rw [apb, apb, h _ (Nat.mod_lt _ (by decide)), apb_cong h k]
theorem apb_comp {f g : Nat → Nat} (hg : ∀ a, a < 256 → g a < 256) : ∀ k n, apb f k (apb g k n) = apb (fun a => f (g a)) k n
  | 0, _ => rfl
  | k + 1, n => by
    have h1 := hg (n % 256) (Nat.mod_lt _ (by decide))
    have e : apb g (k + 1) n = g (n % 256) + 256 * apb g k (n / 256) := rfl
    show f (apb g (k + 1) n % 256) + 256 * apb f k (apb g (k + 1) n / 256) = f (g (n % 256)) + 256 * apb (fun a => f (g a)) k (n / 256)
    rw [e, show (g (n % 256) + 256 * apb g k (n / 256)) % 256 = g (n % 256) by omega, show (g (n % 256) + 256 * apb g k (n / 256)) / 256 = apb g k (n / 256) by omega, apb_comp hg k]
theorem sw1 : ∀ k n, n < 256 ^ k → n - (n / 2 &&& mkb 85 k) = apb (fun a => a - (a / 2 &&& 85)) k n
  | 0, n, h => by
    rw [Nat.pow_zero] at h
    rw [show n = 0 by omega]
    rfl
  | k + 1, n, h => by
    have ih := sw1 k (n / 256) (by rw [Nat.pow_succ] at h; omega)
    have e1 : n / 2 % 256 &&& 85 = n % 256 / 2 &&& 85 := by
      rw [and_low (n / 2 % 256) 85 7 128 rfl (by decide), and_low (n % 256 / 2) 85 7 128 rfl (by decide), show n / 2 % 256 % 128 = n % 256 / 2 % 128 by omega]
    rw [apb, ← ih, mkb, and_split _ _ _ (by decide), e1, show n / 2 / 256 = n / 256 / 2 by omega]
    have l1 : n % 256 / 2 &&& 85 ≤ n % 256 := Nat.le_trans Nat.and_le_left (by omega)
    have l2 : n / 256 / 2 &&& mkb 85 k ≤ n / 256 := Nat.le_trans Nat.and_le_left (by omega)
    generalize n % 256 / 2 &&& 85 = x at l1 ⊢
    generalize n / 256 / 2 &&& mkb 85 k = y at l2 ⊢
    show n - (x + 256 * y) = n % 256 - x + 256 * (n / 256 - y)
    omega
theorem sw2 : ∀ k n, n < 256 ^ k → (n &&& mkb 51 k) + (n / 4 &&& mkb 51 k) = apb (fun a => (a &&& 51) + (a / 4 &&& 51)) k n
  | 0, n, h => by
    rw [Nat.pow_zero] at h
    rw [show n = 0 by omega]
    rfl
  | k + 1, n, h => by
    have ih := sw2 k (n / 256) (by rw [Nat.pow_succ] at h; omega)
    have e1 : n / 4 % 256 &&& 51 = n % 256 / 4 &&& 51 := by
      rw [and_low (n / 4 % 256) 51 6 64 rfl (by decide), and_low (n % 256 / 4) 51 6 64 rfl (by decide), show n / 4 % 256 % 64 = n % 256 / 4 % 64 by omega]
    rw [apb, ← ih, mkb, and_split n _ _ (by decide), and_split (n / 4) _ _ (by decide), e1, show n / 4 / 256 = n / 256 / 4 by omega]
    generalize n % 256 / 4 &&& 51 = x
    generalize n / 256 / 4 &&& mkb 51 k = y
    generalize n % 256 &&& 51 = x2
    generalize n / 256 &&& mkb 51 k = y2
    show x2 + 256 * y2 + (x + 256 * y) = x2 + x + 256 * (y2 + y)
    omega
theorem sw3 {h : Nat → Nat} (hh : ∀ a, a < 256 → h a % 16 ≤ 4 ∧ h a / 16 ≤ 4) : ∀ k n, (apb h k n + apb h k n / 16) &&& mkb 15 k = apb (fun a => h a % 16 + h a / 16) k n
  | 0, _ => Nat.and_zero _
  | k + 1, n => by
    have ih := sw3 hh k (n / 256)
    have h1 := hh (n % 256) (Nat.mod_lt _ (by decide))
    have hQ : apb h k (n / 256) % 16 ≤ 4 := by
      cases k with
      | zero => exact Nat.zero_le 4
      | succ k =>
        have h2 := hh (n / 256 % 256) (Nat.mod_lt _ (by decide))
        rw [apb]
        omega
    have e : apb h (k + 1) n = h (n % 256) + 256 * apb h k (n / 256) := rfl
    show _ = h (n % 256) % 16 + h (n % 256) / 16 + 256 * apb (fun a => h a % 16 + h a / 16) k (n / 256)
    rw [e, ← ih, mkb, and_split _ _ _ (by decide)]
    generalize apb h k (n / 256) = Q at hQ ⊢
    generalize h (n % 256) = a at h1 ⊢
    have x1 : (a + 256 * Q + (a + 256 * Q) / 16) % 256 &&& 15 = a % 16 + a / 16 := by
      have q := Nat.and_two_pow_sub_one_eq_mod ((a + 256 * Q + (a + 256 * Q) / 16) % 256) 4
      rw [show (2 : Nat) ^ 4 - 1 = 15 from rfl, show (2 : Nat) ^ 4 = 16 from rfl] at q
      rw [q]
      omega
    have x2 : (a + 256 * Q + (a + 256 * Q) / 16) / 256 = Q + Q / 16 := by omega
    rw [x1, x2]
def sumb : Nat → Nat → Nat
  | 0, _ => 0
  | k + 1, n => pcf 8 (n % 256) + sumb k (n / 256)
theorem pcf_b : ∀ k n, pcf (8 * k) n = sumb k n
  | 0, _ => rfl
  | k + 1, n => by
    have m := pcf_mod 8 n
    rw [show (2 : Nat) ^ 8 = 256 from rfl] at m
    rw [show 8 * (k + 1) = 8 + 8 * k by omega, pcf_add, sumb, m, show (2 : Nat) ^ 8 = 256 from rfl, pcf_b k]
theorem sw_fin {c0 c1 c2 c3 c4 c5 c6 c7 z u v w : Nat} (h0 : c0 ≤ 8) (h1 : c1 ≤ 8) (h2 : c2 ≤ 8) (h3 : c3 ≤ 8) (h4 : c4 ≤ 8) (h5 : c5 ≤ 8) (h6 : c6 ≤ 8) (h7 : c7 ≤ 8) (hz : z = c0 + 256 * (c1 + 256 * (c2 + 256 * (c3 + 256 * (c4 + 256 * (c5 + 256 * (c6 + 256 * (c7 + 256 * 0)))))))) (hu : u = z + z / 256) (hv : v = u + u / 65536) (hw : w = v + v / 4294967296) : w % 128 = c0 + (c1 + (c2 + (c3 + (c4 + (c5 + (c6 + (c7 + 0))))))) := by
  have h1' : z / 256 = c1 + 256 * (c2 + 256 * (c3 + 256 * (c4 + 256 * (c5 + 256 * (c6 + 256 * c7))))) := by omega
  have eu : u = (c0 + c1) + 256 * ((c1 + c2) + 256 * ((c2 + c3) + 256 * ((c3 + c4) + 256 * ((c4 + c5) + 256 * ((c5 + c6) + 256 * ((c6 + c7) + 256 * c7)))))) := by omega
  have h2' : u / 65536 = (c2 + c3) + 256 * ((c3 + c4) + 256 * ((c4 + c5) + 256 * ((c5 + c6) + 256 * ((c6 + c7) + 256 * c7)))) := by
    clear hv hw hz hu h1'
    omega
  have ev : v = (c0 + c1 + c2 + c3) + 256 * ((c1 + c2 + c3 + c4) + 256 * ((c2 + c3 + c4 + c5) + 256 * ((c3 + c4 + c5 + c6) + 256 * ((c4 + c5 + c6 + c7) + 256 * ((c5 + c6 + c7) + 256 * ((c6 + c7) + 256 * c7)))))) := by
    clear hw hz hu h1'
    omega
  have h3' : v / 4294967296 = (c4 + c5 + c6 + c7) + 256 * ((c5 + c6 + c7) + 256 * ((c6 + c7) + 256 * c7)) := by
    clear hw hz hu h1' hv eu h2'
    omega
  have ew : w = (c0 + c1 + c2 + c3 + (c4 + c5 + c6 + c7)) + 256 * ((c1 + c2 + c3 + c4 + (c5 + c6 + c7)) + 256 * ((c2 + c3 + c4 + c5 + (c6 + c7)) + 256 * ((c3 + c4 + c5 + c6 + c7) + 256 * ((c4 + c5 + c6 + c7) + 256 * ((c5 + c6 + c7) + 256 * ((c6 + c7) + 256 * c7)))))) := by
    clear hz hu h1' hv eu h2'
    omega
  clear hz hu h1' hv eu h2' ev h3' hw
  omega
set_option maxRecDepth 100000 in
theorem sw_byte : ∀ a, a < 256 → (fun a => ((a - (a / 2 &&& 85)) &&& 51) + ((a - (a / 2 &&& 85)) / 4 &&& 51)) a % 16 ≤ 4 ∧ (fun a => ((a - (a / 2 &&& 85)) &&& 51) + ((a - (a / 2 &&& 85)) / 4 &&& 51)) a / 16 ≤ 4 := by decide +kernel
set_option maxRecDepth 100000 in
theorem sw_byte2 : ∀ a, a < 256 → (fun a => (fun a => ((a - (a / 2 &&& 85)) &&& 51) + ((a - (a / 2 &&& 85)) / 4 &&& 51)) a % 16 + (fun a => ((a - (a / 2 &&& 85)) &&& 51) + ((a - (a / 2 &&& 85)) / 4 &&& 51)) a / 16) a = pcf 8 a := by decide +kernel
theorem sw_all {n a1 a2 a3 a4 a5 a6 : Nat} (h : n < 2 ^ 64) (e1 : a1 = n - (n / 2 &&& 6148914691236517205)) (e2 : a2 = (a1 &&& 3689348814741910323) + (a1 / 4 &&& 3689348814741910323)) (e3 : a3 = (a2 + a2 / 16) &&& 1085102592571150095) (e4 : a4 = a3 + a3 / 256) (e5 : a5 = a4 + a4 / 65536) (e6 : a6 = a5 + a5 / 4294967296) : a6 % 128 = pcf 64 n := by
  have q1 : a1 = apb (fun a => a - (a / 2 &&& 85)) 8 n := by rw [e1]; exact sw1 8 n h
  have b1 : ∀ a, a < 256 → a - (a / 2 &&& 85) < 256 := fun a ha => by omega
  have q2 : a2 = apb (fun a => (a &&& 51) + (a / 4 &&& 51)) 8 a1 := by rw [e2]; exact sw2 8 a1 (by rw [q1]; exact apb_lt b1 8 n)
  rw [q1, apb_comp b1] at q2
  have q3 : a3 = apb (pcf 8) 8 n := by
    rw [e3, q2, ← apb_cong sw_byte2]
    exact sw3 sw_byte 8 n
  have p := pcf_b 8 n
  rw [show 8 * 8 = 64 from rfl] at p
  rw [p]
  exact sw_fin (pcf_le 8 _) (pcf_le 8 _) (pcf_le 8 _) (pcf_le 8 _) (pcf_le 8 _) (pcf_le 8 _) (pcf_le 8 _) (pcf_le 8 _) q3 e4 e5 e6

