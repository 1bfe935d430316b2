/-! the checksum -/
def dig1 (d : Int64) (f : Nat → Int32) : Nat → Int64
  | 0 => d
  | n + 1 => dig1 d f n * 31 + (f n).toInt64
def dig2 (d : Int64) (F : Nat → Nat → Int32) (m : Nat) : Nat → Int64
  | 0 => d
  | n + 1 => dig1 (dig2 d F m n) (F n) m
def f_dig (g : S2) (nb np : Nat) : Int64 :=
  dig2 (dig2 (dig2 (dig1 1039 (f_tellC g 1 nb np) 10) (f_tellS g 1 nb np) 5 10) (fun j k => g (1 + 14 + j) (k + 1)) 6 nb) (fun p k => g (1 + 20 + p) (k + 0)) 7 np
theorem dig1_congr {d d' : Int64} {f f' : Nat → Int32} (hd : d = d') : ∀ {n : Nat}, (∀ k, k < n → f k = f' k) → dig1 d f n = dig1 d' f' n
  | 0, _ => hd
  | n + 1, h => by
    unfold dig1
    rw [dig1_congr hd (fun k hk => h k (by omega)), h n (by omega)]
theorem dig2_congr {d d' : Int64} {F F' : Nat → Nat → Int32} {m : Nat} (hd : d = d') : ∀ {n : Nat}, (∀ j k, j < n → k < m → F j k = F' j k) → dig2 d F m n = dig2 d' F' m n
  | 0, _ => hd
  | n + 1, h => by
    unfold dig2
    exact dig1_congr (dig2_congr hd (fun j k hj hk => h j k (by omega) hk)) (fun k hk => h n k (by omega) hk)
theorem dig1_0 {d : Int64} {f : Nat → Int32} : dig1 d f 0 = d := rfl
theorem dig2_0 {d : Int64} {F : Nat → Nat → Int32} {m : Nat} : dig2 d F m 0 = d := rfl
theorem dig1_s {d : Int64} {f : Nat → Int32} {n : Nat} : dig1 d f (n + 1) = dig1 d f n * 31 + (f n).toInt64 := rfl
theorem dig2_s {d : Int64} {F : Nat → Nat → Int32} {m n : Nat} : dig2 d F m (n + 1) = dig1 (dig2 d F m n) (F n) m := rfl
