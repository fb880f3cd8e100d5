/-! .. as the reference does -/
def lyL (S : zD) : List Nat → Int → zSp → zSp
  | [], _, sp => sp
  | c :: r, t, sp => lyL S r (t + S 33 c) (((c : Int), -1, t, t + S 33 c) :: sp)
def tL (S : zD) : List Nat → Int → zD → zD
  | [], _, D => D
  | c :: r, t, D => tL S r (t + S 33 c) (tAdd 6 D (c : Int) t (t + S 33 c))
theorem lyPs_L {S : zD} {m : Nat} : ∀ (n c : Nat) (t : Int) (sp : zSp), lyPs S m n c t sp = lyL S (tbL m c n) t sp
  | 0, _, _, _ => rfl
  | n + 1, c, t, sp => by
    rw [lyPs, tbL]
    by_cases g : m.testBit c = true
    · rw [if_pos g, if_pos g, lyL, lyPs_L n (c + 1)]
    · rw [if_neg g, if_neg g, lyPs_L n (c + 1)]
theorem tL_rp {S : zD} : ∀ (L : List Nat) (t : Int) (D : zD) (sp : zSp), tRp 6 D sp → D 6 3 = sp.length → tRp 6 (tL S L t D) (lyL S L t sp) ∧ tL S L t D 6 3 = (lyL S L t sp).length
  | [], _, _, _, h1, h2 => ⟨h1, h2⟩
  | c :: r, t, D, sp, h1, h2 => by
    obtain ⟨a1, a2⟩ := tAdd_rp (c := (c : Int)) (s := t) (e := t + S 33 c) (ev := -1) h2 h1
    rw [tL, lyL]
    exact tL_rp r _ _ _ a1 (by rw [a2, List.length_cons]; omega)
theorem tL_o {S : zD} {b i : Nat} (h : b < 6 ∨ 9 < b) : ∀ (L : List Nat) (t : Int) (D : zD), tL S L t D b i = D b i
  | [], _, _ => rfl
  | c :: r, t, D => by
    rw [tL, tL_o h r, tAdd_o (by omega)]
theorem tPs_L {F S : zD} {mk : Nat} : ∀ (n i : Nat) (nu : List Nat) (bs : List Bool) (t : Int) (D : zD), nu.length = n → bs.length = n → (∀ k, k < n → F 15 (i + k) = (nu.getD k 0 : Nat) ∧ F 16 (i + k) = S 33 (nu.getD k 0)) → (∀ k, k < n → mk.testBit (7 - (i + k)) = bs.getD k false) → tPs F mk n i t D = tL S (zpS nu bs) t D
  | 0, i, nu, bs, t, D, h1, h2, _, _ => by
    cases nu with
    | nil => rfl
    | cons a b => cases h1
  | n + 1, i, [], bs, t, D, h1, _, _, _ => by cases h1
  | n + 1, i, x :: nu, [], t, D, _, h2, _, _ => by cases h2
  | n + 1, i, x :: nu, b :: bs, t, D, h1, h2, h3, h4 => by
    have g3 : F 15 i = (x : Int) ∧ F 16 i = S 33 x := h3 0 (by omega)
    have g4 : mk.testBit (7 - i) = b := h4 0 (by omega)
    have ih := fun t D => tPs_L (F := F) (S := S) (mk := mk) n (i + 1) nu bs t D (by simpa using h1) (by simpa using h2) (fun k hk => by
      have := h3 (k + 1) (by omega)
      rw [show i + (k + 1) = i + 1 + k by omega] at this
      exact this) (fun k hk => by
      have := h4 (k + 1) (by omega)
      rw [show i + (k + 1) = i + 1 + k by omega] at this
      exact this)
    rw [tPs, zpS, g4, g3.1, g3.2]
    by_cases g : b = true
    · rw [if_pos g, if_pos g, tL, ih]
    · rw [if_neg g, if_neg g, ih]
