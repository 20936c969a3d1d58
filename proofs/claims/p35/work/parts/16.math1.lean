/-! what the reckoning of rows comes to, as functions -/
def m_upto (f w : Nat → ZP) (i : Nat) : Nat → ZP := fun j => if j < i then f j else w j
theorem m_upto_s (f w : Nat → ZP) (i : Nat) {z : ZP} (h : z = f i) : va_up (m_upto f w i) i z = m_upto f w (i + 1) := by
  subst h
  funext j
  by_cases h : j = i
  · subst h
    simp [va_up, m_upto]
  · have h2 : (j < i + 1) = (j < i) := by simp only [eq_iff_iff]; omega
    simp [va_up, m_upto, h, h2]
theorem m_upto_0 (f w : Nat → ZP) : m_upto f w 0 = w := by funext j; simp [m_upto]
theorem m_upto_7 (f w : Nat → ZP) (k : Nat) (h : k < 7) : m_upto f w 7 k = f k := by simp [m_upto, h]
theorem m_upto_at (f w : Nat → ZP) (i : Nat) : m_upto f w i i = w i := by simp [m_upto]
def m_low (b : Nat → Bool) : Int32 := if b 2 then nI 2 else if b 3 then nI 3 else if b 4 then nI 4 else if b 5 then nI 5 else if b 6 then nI 6 else -1
theorem m_low_at {b : Nat → Bool} {i : Nat} (h2 : 2 ≤ i) (h6 : i < 7) (h : ∀ j, 2 ≤ j → j < i → b j = false) (hi : b i = true) : m_low b = nI i := by
  rcases (show i = 2 ∨ i = 3 ∨ i = 4 ∨ i = 5 ∨ i = 6 by omega) with rfl | rfl | rfl | rfl | rfl
  · simp [m_low, hi]
  · simp [m_low, hi, h 2 (by omega) (by omega)]
  · simp [m_low, hi, h 2 (by omega) (by omega), h 3 (by omega) (by omega)]
  · simp [m_low, hi, h 2 (by omega) (by omega), h 3 (by omega) (by omega), h 4 (by omega) (by omega)]
  · simp [m_low, hi, h 2 (by omega) (by omega), h 3 (by omega) (by omega), h 4 (by omega) (by omega), h 5 (by omega) (by omega)]
theorem m_low_no {b : Nat → Bool} (h : ∀ j, 2 ≤ j → j < 7 → b j = false) : m_low b = -1 := by
  simp [m_low, h 2 (by omega) (by omega), h 3 (by omega) (by omega), h 4 (by omega) (by omega), h 5 (by omega) (by omega), h 6 (by omega) (by omega)]
def m_x : Nat → ZP := fun k => if k = 1 then 1 else 0
theorem m_x_eq : va_up (fun _ => (0 : ZP)) 1 1 = m_x := by
  funext j
  by_cases h : j = 1 <;> simp [va_up, m_x, h]
def m_add (u v : Nat → ZP) : Nat → ZP := fun k => u k + v k
def m_scale (u : Nat → ZP) (b : ZP) : Nat → ZP := fun k => u k * b
def m_am (t u : Nat → ZP) (b : ZP) : Nat → ZP := fun k => t k + u k * b
def m_sumc (u v : Nat → ZP) (p : Nat) : Nat → ZP
  | 0 => 0
  | k + 1 => m_sumc u v p k + u (k + 2) * v (p - (k + 2) + 1) * zc (p - (k + 2) + 1)
def m_actc (u v : Nat → ZP) (p : Nat) : ZP := m_sumc u v p (p - 1)
def m_actp (u v : Nat → ZP) (i : Nat) : Nat → ZP := fun j => if 2 ≤ j ∧ j < i then m_actc u v j else 0
def m_act (u v : Nat → ZP) (cu : Nat) : Nat → ZP := fun p => if 2 ≤ p ∧ p ≤ cu then m_actc u v p else 0
theorem m_actp_0 (u v : Nat → ZP) : (fun _ => 0) = m_actp u v 2 := by
  funext j
  have h : ¬ (2 ≤ j ∧ j < 2) := by omega
  simp [m_actp, h]
theorem m_actp_s (u v : Nat → ZP) {i : Nat} (hi : 2 ≤ i) {z : ZP} (h : z = m_actc u v i) : va_up (m_actp u v i) i z = m_actp u v (i + 1) := by
  subst h
  funext j
  by_cases h : j = i
  · subst h
    simp [va_up, m_actp, hi]
  · have h2 : (2 ≤ j ∧ j < i + 1) = (2 ≤ j ∧ j < i) := by simp only [eq_iff_iff]; omega
    simp only [va_up, m_actp, h, h2, if_false]
theorem m_actp_e (u v : Nat → ZP) (cu : Nat) : m_actp u v (cu + 1) = m_act u v cu := by
  funext j
  have h2 : (2 ≤ j ∧ j < cu + 1) = (2 ≤ j ∧ j ≤ cu) := by simp only [eq_iff_iff]; omega
  simp only [m_actp, m_act, h2]
theorem mul3_le {a b d : Nat} (ha : a < 10007) (hb : b < 10007) (hd : d ≤ 6) : a * b * d ≤ 600720216 := Nat.le_trans (Nat.mul_le_mul (Nat.mul_le_mul (Nat.le_of_lt_succ ha) (Nat.le_of_lt_succ hb)) hd) (by decide)
theorem mul2_le {a b : Nat} (ha : a < 10007) (hb : b < 10007) : a * b ≤ 100120036 := Nat.le_trans (Nat.mul_le_mul (Nat.le_of_lt_succ ha) (Nat.le_of_lt_succ hb)) (by decide)
theorem m_sumc_s (u v : Nat → ZP) (p : Nat) {j t : Nat} (hj : 2 ≤ j) (h : zc t = m_sumc u v p (j - 2)) : zc (t + (u j).val * (v (p - j + 1)).val * (p - j + 1)) = m_sumc u v p (j + 1 - 2) := by
  obtain ⟨k, rfl⟩ : ∃ k, j = k + 2 := ⟨j - 2, by omega⟩
  have e1 : k + 2 - 2 = k := by omega
  have e2 : k + 2 + 1 - 2 = k + 1 := by omega
  rw [e1] at h
  rw [e2, zc_add, zc_mul, zc_mul, zc_z, zc_z, h]
  rfl
def m_mulS (u v : Nat → ZP) (p : Nat) : Nat → ZP
  | 0 => 0
  | k + 1 => m_mulS u v p k + u k * v (p - k)
def m_mulc (u v : Nat → ZP) (p : Nat) : ZP := m_mulS u v p (p + 1)
theorem m_mulS_s (u v : Nat → ZP) (p : Nat) {j t : Nat} (h : zc t = m_mulS u v p j) : zc (t + (u j).val * (v (p - j)).val) = m_mulS u v p (j + 1) := by
  rw [zc_add, zc_mul, zc_z, zc_z, h]
  rfl
def m_iv (n : Nat) : ZP := zc (([0, 1, 5004, 3336, 2502, 4003] : List Nat).getD n 0)
def m_exT (f : Nat → ZP) (cu : Nat) : Nat → Nat → ZP
  | 0 => m_x
  | n + 1 => m_scale (m_act f (m_exT f cu n) cu) (m_iv (n + 1))
def m_exO (f : Nat → ZP) (cu : Nat) : Nat → Nat → ZP
  | 0 => m_x
  | n + 1 => m_am (m_exO f cu n) (m_exT f cu (n + 1)) 1
def m_exp (f : Nat → ZP) (cu : Nat) : Nat → ZP := m_exO f cu (cu - 1)
def m_hn (inner outer : Nat → ZP) (cu : Nat) : Nat → Nat → ZP
  | 0 => fun _ => 0
  | k + 1 => fun j => if j ≤ cu then m_mulc (m_hn inner outer cu k) inner j + (if j = 0 then outer (cu - k) else 0) else 0
def m_sub (inner outer : Nat → ZP) (cu : Nat) : Nat → ZP := m_hn inner outer cu (cu + 1)
theorem m_hn_hi (inner outer : Nat → ZP) (cu k : Nat) {j : Nat} (h : cu < j) : m_hn inner outer cu k j = 0 := by
  cases k with
  | zero => rfl
  | succ k => simp only [m_hn]; rw [if_neg (by omega)]
theorem m_hn_s (inner outer : Nat → ZP) (cu k : Nat) (w : Nat → ZP) {z : ZP} (hz : z = m_mulc (m_hn inner outer cu k) inner 0 + outer (cu - k)) : (fun q => if q < cu + 1 then va_up (m_upto (m_mulc (m_hn inner outer cu k) inner) w (cu + 1)) 0 z q else m_hn inner outer cu k q) = m_hn inner outer cu (k + 1) := by
  subst hz
  funext q
  by_cases h : q < cu + 1
  · have h2 : q ≤ cu := by omega
    simp only [m_hn, h, h2, if_true]
    by_cases h0 : q = 0
    · subst h0
      simp [va_up]
    · simp [va_up, h0, m_upto, h]
  · have h2 : ¬ q ≤ cu := by omega
    simp only [m_hn, h, h2, if_false]
    exact m_hn_hi inner outer cu k (by omega)
def m_inn (flow : Nat → ZP) : Nat → Nat → ZP
  | 0 => m_x
  | k + 1 => va_up (m_inn flow k) (k + 2) (- m_sub flow (m_inn flow k) (k + 2) (k + 2))
def m_inv (flow : Nat → ZP) (cu : Nat) : Nat → ZP := m_inn flow (cu - 1)
theorem zc_neg (z : ZP) : zc (10007 - z.val) = - z := by
  have h := zc_sub (a := 0) (z := z)
  rw [Nat.zero_add, zc_0] at h
  rw [h]
  grind
def m_lon (flow : Nat → ZP) : Nat → Nat → ZP
  | 0 => fun _ => 0
  | k + 1 => va_up (m_lon flow k) (k + 2) (flow (k + 2) - m_exp (m_lon flow k) (k + 2) (k + 2))
def m_log (flow : Nat → ZP) (cu : Nat) : Nat → ZP := m_lon flow (cu - 1)
def m_rep (flow : Nat → ZP) (times : ZP) (cu : Nat) : Nat → ZP := m_exp (m_scale (m_log flow cu) times) cu
def m_push (flow f : Nat → ZP) (cu : Nat) : Nat → ZP := m_sub (m_inv flow cu) (m_act f flow cu) cu
def m_br (f g : Nat → ZP) (cu : Nat) : Nat → ZP := m_am (m_act f g cu) (m_act g f cu) (zc 10006)
def m_way2 (a b : Nat → ZP) : Nat → ZP := m_add a b
def m_way3 (a b : Nat → ZP) (cu : Nat) : Nat → ZP := m_am (m_way2 a b) (m_br a b cu) (zc 5004)
def m_way4 (a b : Nat → ZP) (cu : Nat) : Nat → ZP := m_am (m_am (m_way3 a b cu) (m_br a (m_br a b cu) cu) (zc 834)) (m_br b (m_br a b cu) cu) (zc 9173)
def m_way5 (a b : Nat → ZP) (cu : Nat) : Nat → ZP := m_am (m_way4 a b cu) (m_br b (m_br a (m_br a b cu) cu) cu) (zc 9590)
def m_way (a b : Nat → ZP) (way cu : Nat) : Nat → ZP := if way < 3 then m_way2 a b else if way < 4 then m_way3 a b cu else if way < 5 then m_way4 a b cu else m_way5 a b cu
def m_cf (a b : Nat → ZP) (cu : Nat) : Nat → ZP := m_log (m_sub (m_exp a cu) (m_exp b cu) cu) cu
def m_hv (u : Nat → ZP) (x : ZP) : Nat → ZP
  | 0 => 0
  | k + 1 => m_hv u x k * x + u (6 - k)
def m_val (u : Nat → ZP) (x : ZP) : ZP := m_hv u x 7
def m_ivI (z : ZP) : Nat → ZP × ZP
  | 0 => (1, z)
  | k + 1 => (if 10005 / 2 ^ k % 2 = 1 then (m_ivI z k).1 * (m_ivI z k).2 else (m_ivI z k).1, (m_ivI z k).2 * (m_ivI z k).2)
def m_finv (z : ZP) : ZP := (m_ivI z 14).1
abbrev rkO (ra : Nat → Nat) : va_E := .inr (1, [.ref (ra 0), .ref (ra 1), .ref (ra 2), .ref (ra 3), .ref (ra 4), .ref (ra 5), .ref (ra 6), .ref (ra 7), .ref (ra 8), .ref (ra 9), .ref (ra 10), .ref (ra 11), .ref (ra 12), .ref (ra 13)])
