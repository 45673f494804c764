/-! ===== the relation between the class and the reference ===== -/
/-- a byte of the class's tape, of one of the reference's -/
def sb (x : Nat) : Int32 := (nI x).toInt8.toInt32
def RTape (n n' : Int32) (a a' : Nat → Int32) : Prop := ∃ l : Nat, l ≤ 600 ∧ n = nI l ∧ n' = nI l ∧ ∀ i, i < l → ∃ x : Nat, x < 256 ∧ a i = sb x ∧ a' i = nI x
/-- the house: h 0 base, 1 oil, 2 its days, 3 stop, 4 tenants, 5 quarrels, 6 rules; t i 0 weight, 1 breath, 2 stay, 3 rent, 4 foes as bits; ru the rules' tokens -/
def MHt (h : Nat → Nat) (t : Nat → Nat → Nat) : Prop := ∀ i, i < h 4 → (t i 0 ≤ 20 ∧ t i 1 ≤ 2 ∧ 1 ≤ t i 2 ∧ t i 2 ≤ 12 ∧ t i 3 ≤ 99 ∧ t i 4 < 2 ^ h 4) ∧ (t i 4).testBit i = false ∧ ∀ j, j < h 4 → (t i 4).testBit j = (t j 4).testBit i
def MHs (h : Nat → Nat) : Prop := (20 ≤ h 0 ∧ h 0 ≤ 60) ∧ h 1 ≤ 30 ∧ (1 ≤ h 2 ∧ h 2 ≤ 99) ∧ (41 ≤ h 3 ∧ h 3 ≤ 400) ∧ h 4 ≤ 6 ∧ h 5 ≤ 8 ∧ h 6 ≤ 4
def CHs (h : Nat → Nat) (s0 s1 s2 s3 s4 s5 s6 : Int32) : Prop := s0 = nI (h 0) ∧ s1 = nI (h 1) ∧ s2 = nI (h 2) ∧ s3 = nI (h 3) ∧ s4 = nI (h 4) ∧ s5 = nI (h 5) ∧ s6 = nI (h 6)
def CHt (h : Nat → Nat) (t : Nat → Nat → Nat) (w b y r f : Nat → Int32) : Prop := ∀ i, i < h 4 → w i = nI (t i 0) ∧ b i = nI (t i 1) ∧ y i = nI (t i 2) ∧ r i = nI (t i 3) ∧ f i = nI (t i 4)
def RHt (h : Nat → Nat) (t : Nat → Nat → Nat) (tn ag : Nat → Int32) : Prop := ∀ i, i < h 4 → tn (4 * i) = nI (t i 0) ∧ tn (4 * i + 1) = nI (t i 1) ∧ tn (4 * i + 2) = nI (t i 2) ∧ tn (4 * i + 3) = nI (t i 3) ∧ ag i = nI (t i 4)
/-- a token of the class's code in the reference's -/
def trT (p : Nat) : List Nat := if p < 10000 then [1, p] else if p < 20000 then [2, p - 10000] else [([0, 5, 4, 3, 6, 7, 8, 9, 10, 11] : List Nat).getD (p - 20000) 0]
/-- the pile's height behind a token, if it may stand -/
def htT (p k : Nat) : Option Nat := if p < 10006 then (if p < 10000 ∨ 10000 ≤ p then (if k < 40 then some (k + 1) else none) else none) else if p = 20003 then (if 1 ≤ k then some k else none) else if 20001 ≤ p ∧ p ≤ 20009 then (if 2 ≤ k then some (k - 1) else none) else none
def htL : List Nat → Nat → Option Nat
  | [], k => some k
  | p :: ps, k => match htT p k with
    | some k2 => htL ps k2
    | none => none
def CU (n : Nat) (ru : Nat → List Nat) (code re : Nat → Int32) : Prop := ∃ st : Nat → Nat, st 0 = 0 ∧ ∀ r, r < n → (re r = nI (st (r + 1)) ∧ st (r + 1) = st r + (ru r).length ∧ st (r + 1) ≤ 600) ∧ ∀ j p, (ru r)[j]? = some p → code (st r + j) = nI p
def RU (n : Nat) (ru : Nat → List Nat) (code ra : Nat → Int32) : Prop := ∀ r, r < n → ∃ a : Nat, ra r = nI a ∧ a + ((ru r).flatMap trT).length + 1 ≤ 1600 ∧ ∀ j p, ((ru r).flatMap trT ++ [0])[j]? = some p → code (a + j) = nI p
def MU (n : Nat) (ru : Nat → List Nat) : Prop := ∀ r, r < n → htL (ru r) 0 = some 1
/-- leases: le i 0 tenant, 1 half, 2 from, 3 to -/
def covL (le : Nat → Nat → Nat) (x hr i : Nat) : Bool := decide (le i 1 = x ∧ le i 2 ≤ hr ∧ hr ≤ le i 3)
/-- the first of k from i on -/
def fst1 (f : Nat → Bool) : Nat → Nat → Option Nat
  | _, 0 => none
  | i, k + 1 => if f i = true then some i else fst1 f (i + 1) k
def occL (le : Nat → Nat → Nat) (n x hr : Nat) : Option Nat := fst1 (covL le x hr) 0 n
def CLs (n : Nat) (le : Nat → Nat → Nat) (sz : Int32) (te ha fr to cl : Nat → Int32) : Prop := sz = nI n ∧ (∀ i, i < n → te i = nI (le i 0) ∧ ha i = nI (le i 1) ∧ fr i = nI (le i 2) ∧ to i = nI (le i 3)) ∧ ∀ x hr, x < 3 → hr < 24 → cl (24 * x + hr) = (match occL le n x hr with
  | some i => nI i
  | none => -1)
def RLs (n : Nat) (le : Nat → Nat → Nat) (sz : Int32) (row : Nat → Int32) : Prop := sz = nI n ∧ ∀ i, i < n → row (4 * i) = nI (le i 0) ∧ row (4 * i + 1) = nI (le i 1) ∧ row (4 * i + 2) = nI (le i 2) ∧ row (4 * i + 3) = nI (le i 3)
def letsT (t : Nat → Nat → Nat) (i x : Nat) : Prop := x = 2 ∨ t i 1 = 2 ∨ t i 1 = x
def MLs (h : Nat → Nat) (t : Nat → Nat → Nat) (n : Nat) (le : Nat → Nat → Nat) : Prop := n ≤ 12 ∧ (∀ i, i < n → le i 0 < h 4 ∧ le i 1 < 3 ∧ le i 2 ≤ le i 3 ∧ le i 3 < 24 ∧ letsT t (le i 0) (le i 1)) ∧
  ∀ i j hr, i < j → j < n → le i 2 ≤ hr → hr ≤ le i 3 → le j 2 ≤ hr → hr ≤ le j 3 → le i 1 ≠ le j 1 ∧ le i 0 ≠ le j 0
/-- what the rules see -/
def whoL (le : Nat → Nat → Nat) (n x hr : Nat) : Option Nat := (occL le n x hr).map (fun i => le i 0)
def wOf (t : Nat → Nat → Nat) (o : Option Nat) : Nat := match o with
  | some i => t i 0
  | none => 0
def qOf (t : Nat → Nat → Nat) (i : Nat) (o : Option Nat) : Nat := match o with
  | some j => if (t i 4).testBit j = true then 1 else 0
  | none => 0
def vaL (t : Nat → Nat → Nat) (n : Nat) (le : Nat → Nat → Nat) (k hr : Nat) : Nat → Nat
  | 0 => t (le k 0) 0
  | 1 => le k 1
  | 2 => hr
  | 3 => le k 3 - le k 2 + 1
  | 4 => (if le k 1 = 0 then 0 else wOf t (whoL le n 0 hr)) + (if le k 1 = 1 then 0 else wOf t (whoL le n 1 hr))
  | _ => qOf t (le k 0) (whoL le n 0 hr) + qOf t (le k 0) (whoL le n 1 hr) + qOf t (le k 0) (whoL le n 2 hr)
def jnT (p : Nat) (a b : Int32) : Int32 := if p = 20001 then (if a ≠ 0 ∨ b ≠ 0 then 1 else 0) else if p = 20002 then (if a ≠ 0 ∧ b ≠ 0 then 1 else 0) else if p = 20004 then (if a < b then 1 else 0) else if p = 20005 then (if a = b then 1 else 0) else if p = 20006 then a + b else if p = 20007 then a - b else if p = 20008 then a * b else (if b = 0 then 0 else a / b)
def evT (va : Nat → Nat) (p : Nat) (st : List Int32) : List Int32 := if p < 10000 then nI p :: st else if p < 20000 then nI (va (p - 10000)) :: st else if p = 20003 then (match st with
  | a :: r => (if a = 0 then 1 else 0) :: r
  | [] => []) else (match st with
  | b :: a :: r => jnT p a b :: r
  | _ => st)
def evL (va : Nat → Nat) : List Nat → List Int32 → List Int32
  | [], st => st
  | p :: ps, st => evL va ps (evT va p st)
def okR (va : Nat → Nat) (nr : Nat) (ru : Nat → List Nat) : Prop := ∀ r, r < nr → (evL va (ru r) []).getD 0 0 ≠ 0
def okL (t : Nat → Nat → Nat) (nr : Nat) (ru : Nat → List Nat) (n : Nat) (le : Nat → Nat → Nat) : Prop := ∀ k hr, k < n → le k 2 ≤ hr → hr ≤ le k 3 → okR (vaL t n le k hr) nr ru
def MLr (h : Nat → Nat) (t : Nat → Nat → Nat) (ru : Nat → List Nat) (n : Nat) (le : Nat → Nat → Nat) : Prop := ∀ m, m ≤ n → okL t (h 6) ru m le
/-- offers: of i 0 from, 1 to, 2 coins -/
def MOf (n : Nat) (of : Nat → Nat → Nat) : Prop := n ≤ 8 ∧ ∀ i, i < n → of i 0 ≤ of i 1 ∧ of i 1 < 24 ∧ of i 2 ≤ 99
def COf (n : Nat) (of : Nat → Nat → Nat) (sz : Int32) (ho co : Nat → Int32) : Prop := sz = nI n ∧ ∀ i, i < n → ho i = nI (2 ^ (of i 1 + 1) - 2 ^ of i 0) ∧ co i = nI (of i 2)
def ROf (n : Nat) (of : Nat → Nat → Nat) (sz : Int32) (row : Nat → Int32) : Prop := sz = nI n ∧ ∀ i, i < n → row (3 * i) = nI (of i 0) ∧ row (3 * i + 1) = nI (of i 1) ∧ row (3 * i + 2) = nI (of i 2)
def RLease (h : Nat → Nat) (t : Nat → Nat → Nat) (ru : Nat → List Nat) (sz : Int32) (te ha fr to cl : Nat → Int32) (sz' : Int32) (row : Nat → Int32) : Prop := ∃ (n : Nat) (le : Nat → Nat → Nat), MLs h t n le ∧ MLr h t ru n le ∧ CLs n le sz te ha fr to cl ∧ RLs n le sz' row
def ROffer (sz : Int32) (ho co : Nat → Int32) (sz' : Int32) (row : Nat → Int32) : Prop := ∃ (n : Nat) (of : Nat → Nat → Nat), MOf n of ∧ COf n of sz ho co ∧ ROf n of sz' row
def RKept (a b : Int32) (v w : Nat → Int32) : Prop := (a = 0 ∧ b = 0) ∨ (a = 1 ∧ b = 1 ∧ ∀ i, i < 6 → v i = w i)
def RHouse (h : Nat → Nat) (t : Nat → Nat → Nat) (ru : Nat → List Nat) (S : Nat → Int32) (V : Nat → Nat → Int32) (S' : Nat → Int32) (V' : Nat → Nat → Int32) : Prop := MHs h ∧ MHt h t ∧ MU (h 6) ru ∧ CHs h (S 300) (S 301) (S 302) (S 303) (S 304) (S 305) (S 306) ∧ CHt h t (V 4) (V 5) (V 6) (V 7) (V 8) ∧ CU (h 6) ru (V 9) (V 10) ∧ CHs h (S' 1) (S' 2) (S' 3) (S' 4) (S' 5) (S' 6) (S' 7) ∧ RHt h t (V' 1) (V' 2) ∧ RU (h 6) ru (V' 4) (V' 3)
def RImg (h : Nat → Nat) (t : Nat → Nat → Nat) (ru : Nat → List Nat) (S : Nat → Int32) (V : Nat → Nat → Int32) (S' : Nat → Int32) (V' : Nat → Nat → Int32) : Prop := (S 11 = 0 ∧ S' 55 = 0) ∨ (S 11 = 1 ∧ S' 55 = 1 ∧ RLease h t ru (S 3602) (V 37) (V 38) (V 39) (V 40) (V 41) (S' 56) (V' 22) ∧ ROffer (S 4500) (V 46) (V 47) (S' 57) (V' 23))
def Rel (S : Nat → Int32) (V : Nat → Nat → Int32) (S' : Nat → Int32) (V' : Nat → Nat → Int32) (_ : Nat → Int64) : Prop :=
  RTape (S 1) (S' 13) (V 1) (V' 5) ∧ S 2 = S' 15 ∧ (V 2 0 = V' 6 0 ∧ V 2 1 = V' 6 1 ∧ V 2 2 = V' 6 2) ∧
  (∃ h t ru, RHouse h t ru S V S' V' ∧ RLease h t ru (S 3002) (V 31) (V 32) (V 33) (V 34) (V 35) (S' 42) (V' 13) ∧ RImg h t ru S V S' V') ∧
  ROffer (S 4200) (V 43) (V 44) (S' 53) (V' 21) ∧ RKept (S 4911) (S' 49) (V 57) (V' 18) ∧ RKept (S 5903) (S' 52) (V 62) (V' 20)
theorem R_thr {S : Nat → Int32} {V : Nat → Nat → Int32} {S' : Nat → Int32} {V' : Nat → Nat → Int32} {L' : Nat → Int64} {x : Int32} (h : Rel S V S' V' L') : Rel S V (va_up S' 0 x) V' L' := h
theorem within_eq {a b c : Int32} : fX12_within a b c = some (if a < b ∨ c < a then 0 else 1) := by
  unfold fX12_within
  by_cases h1 : a < b
  · rw [if_pos h1, if_pos (Or.inl h1)]
  · rw [if_neg h1]
    by_cases h2 : c < a
    · rw [if_pos h2, if_pos (Or.inr h2)]
    · rw [if_neg h2, if_neg (fun h => h.elim h1 h2)]
theorem right_t {S : Nat → Int32} {k : Int32} (h0 : S 0 = 0) : fX12_right_0 S 1 k = some (1, S) := by
  simp [fX12_right_0, bk, lt, h0]
theorem right_f {S : Nat → Int32} {k : Int32} (h0 : S 0 = 0) (hk : ¬ k = 0) : fX12_right_0 S 0 k = some (0, va_up S 0 k) := by
  simp [fX12_right_0, bk, lt, h0, va_up_self, hk]
/-- ===== fault ===== -/
theorem sm_fault : St_fault Rel := fun S V S' V' L' h => ⟨S 2, va_up S' 0 0, rfl, by
  unfold fX12_fault_0
  simp only [lt_e]
  rw [h.2.1]
  rfl, R_thr h⟩
