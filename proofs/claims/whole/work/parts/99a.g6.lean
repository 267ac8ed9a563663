/-! names as numbers -/
def vN (c : Int → Int) : Nat → Int
  | 0 => 0
  | n + 1 => vN c n * 32 + c n - 96
theorem vN_0 {c : Int → Int} : ∀ n : Nat, (∀ k : Int, 0 ≤ k → k < n → 97 ≤ c k ∧ c k ≤ 122) → 0 ≤ vN c n
  | 0, _ => Int.le_refl _
  | n + 1, h => by
    have i := vN_0 n (fun k a b => h k a (by omega))
    have q := h n (by omega) (by omega)
    show 0 ≤ vN c n * 32 + c n - 96
    omega
theorem vN_inj {c d : Int → Int} : ∀ n m : Nat, (∀ k : Int, 0 ≤ k → k < n → 97 ≤ c k ∧ c k ≤ 122) → (∀ k : Int, 0 ≤ k → k < m → 97 ≤ d k ∧ d k ≤ 122) → vN c n = vN d m → n = m ∧ ∀ k : Int, 0 ≤ k → k < n → c k = d k
  | 0, 0, _, _, _ => ⟨rfl, fun k a b => by omega⟩
  | 0, m + 1, _, hd, e => by
    have i := vN_0 m (fun k a b => hd k a (by omega))
    have q := hd m (by omega) (by omega)
    have e2 : (0 : Int) = vN d m * 32 + d m - 96 := e
    omega
  | n + 1, 0, hc, _, e => by
    have i := vN_0 n (fun k a b => hc k a (by omega))
    have q := hc n (by omega) (by omega)
    have e2 : vN c n * 32 + c n - 96 = (0 : Int) := e
    omega
  | n + 1, m + 1, hc, hd, e => by
    have q := hc n (by omega) (by omega)
    have q2 := hd m (by omega) (by omega)
    have e2 : vN c n * 32 + c n - 96 = vN d m * 32 + d m - 96 := e
    obtain ⟨r1, r2⟩ := vN_inj n m (fun k a b => hc k a (by omega)) (fun k a b => hd k a (by omega)) (by omega)
    refine ⟨by omega, fun k a b => ?_⟩
    by_cases z : k = n
    · rw [z]
      rw [r1] at e2 q ⊢
      omega
    · exact r2 k a (by omega)
theorem encN_v {c : Int → Int} {L : Nat} (hc : ∀ k : Int, 0 ≤ k → k < L → 97 ≤ c k ∧ c k ≤ 122) : ∀ n : Nat, n ≤ L → encN c n = vN c n
  | 0, _ => rfl
  | n + 1, hn => by
    have q := hc n (by omega) (by omega)
    show (if c n = 0 then encN c n else encN c n * 32 + c n - 96) = vN c n * 32 + c n - 96
    rw [if_neg (by omega), encN_v hc n (by omega)]
theorem encN_z {c : Int → Int} {L : Nat} (hz : ∀ k : Int, (L : Int) ≤ k → k < 8 → c k = 0) : ∀ n : Nat, L + n ≤ 8 → encN c (L + n) = encN c L
  | 0, _ => rfl
  | n + 1, hn => by
    show (if c ((L + n : Nat) : Int) = 0 then encN c (L + n) else _) = _
    rw [if_pos (hz _ (by omega) (by omega)), encN_z hz n (by omega)]
theorem nm_v {c : Int → Int} (h : nmOk c) : ∃ L : Nat, 1 ≤ L ∧ L ≤ 8 ∧ encN c 8 = vN c L ∧ (∀ k : Int, 0 ≤ k → k < L → 97 ≤ c k ∧ c k ≤ 122) ∧ ∀ k : Int, (L : Int) ≤ k → k < 8 → c k = 0 := by
  obtain ⟨L, l1, l8, a, b⟩ := h
  obtain ⟨M, hM⟩ : ∃ M : Nat, M = L.toNat := ⟨_, rfl⟩
  have e : (M : Int) = L := by omega
  have hc : ∀ k : Int, 0 ≤ k → k < M → 97 ≤ c k ∧ c k ≤ 122 := fun k p q => a k p (by omega)
  have hz : ∀ k : Int, (M : Int) ≤ k → k < 8 → c k = 0 := fun k p q => b k (by omega) q
  refine ⟨M, by omega, by omega, ?_, hc, hz⟩
  have q := encN_z hz (8 - M) (by omega)
  rw [show M + (8 - M) = 8 by omega] at q
  rw [q, encN_v hc M (Nat.le_refl _)]
/-- names are the same if their numbers are -/
theorem encN_inj {c d : Int → Int} (hc : nmOk c) (hd : nmOk d) : encN c 8 = encN d 8 ↔ ∀ k : Int, 0 ≤ k → k < 8 → c k = d k := by
  constructor
  · intro e
    obtain ⟨L, l1, l8, e1, a1, b1⟩ := nm_v hc
    obtain ⟨M, m1, m8, e2, a2, b2⟩ := nm_v hd
    rw [e1, e2] at e
    obtain ⟨r1, r2⟩ := vN_inj L M a1 a2 e
    intro k k0 k1
    by_cases z : k < L
    · exact r2 k k0 z
    · rw [b1 k (by omega) k1, b2 k (by omega) k1]
  · intro e
    exact encN_eq 8 (fun k a b => e k a (by omega))
theorem nmv_ok {S : Int → Int} {L p : Int} (hT : TxS S L) (hp : 0 ≤ p ∧ p ≤ L) (hk : kP S p = 0) (h8 : bP S p - aP S p ≤ 8) : nmOk (nmv S p) := by
  obtain ⟨e, l⟩ := (wE_0 hT hp).1 hk
  obtain ⟨w1, w2, w3, w4⟩ := wE_rg hT hp
  refine ⟨bP S p - aP S p, by omega, h8, fun k a b => ?_, fun k a b => ?_⟩
  · unfold nmv
    rw [if_pos (by omega)]
    exact of_decide_eq_true (w4 _ (by omega) (by omega))
  · unfold nmv
    rw [if_neg (by omega)]
/-- the number of a name that is read, against one that is told -/
theorem nm_iff {S : Int → Int} {L p x : Int} {r : Int → Int} (hT : TxS S L) (hp : 0 ≤ p ∧ p ≤ L) (hk : kP S p = 0) (h8 : bP S p - aP S p ≤ 8) (hr : nmOk (fun k => r (x + k))) : encN (fun k => r (x + k)) 8 = encN (nmv S p) 8 ↔ nmQ S p r x := encN_inj hr (nmv_ok hT hp hk h8)
