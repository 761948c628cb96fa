section
/-- rows of m parishes out of the last k of n, behind a row l, in their order -/
def kcl (n : Nat) : Nat → Nat → List Nat → List (List Nat)
  | 0, _, l => [l]
  | _ + 1, 0, _ => []
  | m + 1, k + 1, l => kcl n m k (l ++ [n - (k + 1)]) ++ kcl n (m + 1) k l
/-- the place that pickNext finds: 0 none, j + 1 -/
def kpi (n s : Nat) (q : Nat → Nat) : Nat → Nat
  | 0 => 0
  | j + 1 => bif Nat.blt (q j) (n - s + j) then j + 1 else kpi n s q j
def knq (q : Nat → Nat) (j x : Nat) : Nat := bif Nat.blt x j then q x else q j + 1 + (x - j)
def kgd (l : List Nat) (i : Nat) : Nat := l.getD i 0
def kall (g : Nat → Bool) : Nat → Bool
  | 0 => true
  | n + 1 => kall g n && g n
theorem kall_t {g : Nat → Bool} {n : Nat} (h : kall g n = true) : ∀ i, i < n → g i = true := by
  induction n with
  | zero => intro i hi; omega
  | succ n ih =>
    simp only [kall, Bool.and_eq_true] at h
    intro i hi
    by_cases e : i = n
    · rw [e]; exact h.2
    · exact ih h.1 i (by omega)
def kch (n s : Nat) : List (List Nat) → Bool
  | [] => true
  | l :: rest => Nat.beq l.length s && kall (fun i => Nat.blt (kgd l i) n && (Nat.beq i 0 || Nat.blt (kgd l (i - 1)) (kgd l i))) s && (match rest with
    | [] => Nat.beq (kpi n s (kgd l) s) 0
    | l1 :: _ => Nat.blt 0 (kpi n s (kgd l) s) && kall (fun x => Nat.beq (kgd l1 x) (knq (kgd l) (kpi n s (kgd l) s - 1) x)) s) && kch n s rest
def kchk (n s : Nat) : Bool := kch n s (kcl n s n []) && Nat.ble (kcl n s n []).length 2024 && (match kcl n s n [] with
  | [] => Nat.blt n s
  | l :: _ => Nat.ble s n && kall (fun i => Nat.beq (kgd l i) i) s)
theorem kchk_ok : kall (fun n => kall (kchk n) 4) 25 = true := by decide +kernel
end

