/-! One world for all: every cell of the class, of the reference and of the law has a number, in the order in which they are made; ad: its address; E: what it holds. -/
def gw (n : Nat) (ad : Nat → Nat) (E : Nat → va_E) : va_W := (List.range n).map fun k => (ad k, E k)
theorem gw_len {n : Nat} {ad : Nat → Nat} {E : Nat → va_E} : (gw n ad E).length = n := by simp [gw]
theorem gw_at {n : Nat} {ad : Nat → Nat} {E : Nat → va_E} {k : Nat} (h : k < n) : (gw n ad E)[k]? = some (ad k, E k) := by
  simp [gw, List.getElem?_map, h]
theorem gw_set {n : Nat} {ad : Nat → Nat} {E : Nat → va_E} {k : Nat} {e : va_E} (h : k < n) : (gw n ad E).set k (ad k, e) = gw n ad (va_up E k e) := by
  apply List.ext_getElem?
  intro j
  by_cases hj : j < n
  · rw [gw_at hj]
    by_cases hjk : j = k
    · subst hjk
      rw [List.getElem?_set_self (by rw [gw_len]; exact hj)]
      simp [va_up]
    · rw [List.getElem?_set_ne (Ne.symm hjk), gw_at hj]
      simp [va_up, hjk]
  · rw [List.getElem?_eq_none (by rw [List.length_set, gw_len]; omega), List.getElem?_eq_none (by rw [gw_len]; omega)]
theorem gw_push {n : Nat} {ad : Nat → Nat} {E : Nat → va_E} {q : Nat} {e : va_E} : gw n ad E ++ [(q, e)] = gw (n + 1) (va_up ad n q) (va_up E n e) := by
  unfold gw
  rw [List.range_succ, List.map_append]
  congr 1
  · apply List.map_congr_left
    intro k hk
    have h : k ≠ n := by have h1 := List.mem_range.mp hk; omega
    simp [va_up, h]
  · simp [va_up]
