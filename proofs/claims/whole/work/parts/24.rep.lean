def oTop (kf : Int32) : Nat → Value := fun k => match k with
  | 0 => .ref 1
  | 1 => .ref 3
  | 2 => .ref 17
  | 3 => .ref 19
  | 4 => .int kf
  | 5 => .ref 33
  | 6 => .ref 36
  | 7 => .ref 44
  | 8 => .ref 54
  | 9 => .ref 60
  | 10 => .ref 66
  | _ => .null
theorem oTop_4 (kf : Int32) (x9 : Int32) : va_up (oTop kf) 4 (.int x9) = oTop x9 := by
  funext k
  match k with
  | 0 => rfl
  | 1 => rfl
  | 2 => rfl
  | 3 => rfl
  | 4 => rfl
  | 5 => rfl
  | 6 => rfl
  | 7 => rfl
  | 8 => rfl
  | 9 => rfl
  | 10 => rfl
  | k + 11 => simp [va_up, oTop]
/-! ===== LoopJudge: what its cells say ===== -/
theorem mC.mono {M : MD} {as : List Value} {n : Nat} {hp : mHp} {Q Q' : mQ} (h : mC M as n hp Q) (hq : ∀ v hp', Q v hp' → Q' v hp') : mC M as n hp Q' := fun l D dA ad base => by
  refine MetFree.mono (h l D dA ad base) (fun _ _ h => h) (fun _ _ _ _ _ h => h) ?_
  rintro a st o t - ⟨⟨v, hp', h1, h2, h3⟩, h4⟩
  exact ⟨⟨v, hp', h1, hq v hp' h2, h3⟩, h4⟩
/-- twelve numbers: the PARTS of P and Q, GAIN, THE DRAW -/
def vec (P : Nat → Int32) (g d : Int32) : Nat → Int32 := fun t => if t = 10 then g else if t = 11 then d else P t
def eq12 (f g : Nat → Int32) : Prop := ∀ t, t < 12 → f t = g t
theorem vec_lt {P : Nat → Int32} {g d : Int32} {t : Nat} (h : t < 10) : vec P g d t = P t := by
  unfold vec
  rw [if_neg (by omega), if_neg (by omega)]
theorem vec_10 {P : Nat → Int32} {g d : Int32} : vec P g d 10 = g := rfl
theorem vec_11 {P : Nat → Int32} {g d : Int32} : vec P g d 11 = d := rfl
theorem vec_set {P : Nat → Int32} {g d : Int32} {c : Nat → Int32} (h : eq12 (vec P g d) c) : (∀ t, t < 10 → P t = c t) ∧ g = c 10 ∧ d = c 11 := ⟨fun t ht => by rw [← h t (by omega), vec_lt ht], h 10 (by decide), h 11 (by decide)⟩
theorem vec_of {P : Nat → Int32} {g d : Int32} {c : Nat → Int32} (h : ∀ t, t < 10 → P t = c t) (hg : g = c 10) (hd : d = c 11) : eq12 (vec P g d) c := by
  intro t ht
  by_cases e : t = 10
  · subst e
    exact hg
  · by_cases e2 : t = 11
    · subst e2
      exact hd
    · rw [vec_lt (by omega)]
      exact h t (by omega)
def cSet (hp : mHp) (a : Nat) (c : Nat → Int32) : Prop := ∃ (P : Nat → Int32) (g d : Int32), hp a = eO 3 (oSet (a + 1) g d) ∧ hp (a + 1) = eI 10 P ∧ eq12 (vec P g d) c
theorem cSet.of {hp hp' : mHp} {a : Nat} {c : Nat → Int32} (h : cSet hp a c) (e : ∀ q, a ≤ q → q ≤ a + 1 → hp' q = hp q) : cSet hp' a c := by
  obtain ⟨P, g, d, h1, h2, h3⟩ := h
  exact ⟨P, g, d, (e a (by omega) (by omega)).trans h1, (e (a + 1) (by omega) (by omega)).trans h2, h3⟩
/-- the settings that are known, the latest first -/
def cHist (hp : mHp) (a k : Nat) (H : Nat → Nat → Int32) : Prop := ∃ (w : Nat) (G Dr : Nat → Int32) (PP : Nat → Nat → Int32), w < 6 ∧ k ≤ 6 ∧ hp a = eO 2 (oPast (a + 1) (nI w) (nI k)) ∧ hp (a + 1) = eR tyS 6 (rSet (a + 2)) ∧ sixAt hp (a + 2) G Dr PP ∧ ∀ j, j < k → eq12 (vec (PP ((w + 6 - j) % 6)) (G ((w + 6 - j) % 6)) (Dr ((w + 6 - j) % 6))) (H j)
theorem sixAt.of {hp hp' : mHp} {b : Nat} {G Dr : Nat → Int32} {PP : Nat → Nat → Int32} (h : sixAt hp b G Dr PP) (e : ∀ q, b ≤ q → q < b + 12 → hp' q = hp q) : sixAt hp' b G Dr PP := fun i hi => ⟨(e _ (by omega) (by omega)).trans (h i hi).1, (e _ (by omega) (by omega)).trans (h i hi).2⟩
theorem cHist.of {hp hp' : mHp} {a k : Nat} {H : Nat → Nat → Int32} (h : cHist hp a k H) (e : ∀ q, a ≤ q → q ≤ a + 13 → hp' q = hp q) : cHist hp' a k H := by
  obtain ⟨w, G, Dr, PP, h1, h2, h3, h4, h5, h6⟩ := h
  exact ⟨w, G, Dr, PP, h1, h2, (e _ (by omega) (by omega)).trans h3, (e _ (by omega) (by omega)).trans h4, h5.of (fun q q1 q2 => e q (by omega) (by omega)), h6⟩
def pushK (k : Nat) : Nat := if 6 ≤ k then k else k + 1
def pushH (c : Nat → Int32) (H : Nat → Nat → Int32) : Nat → Nat → Int32 := fun j => match j with
  | 0 => c
  | j + 1 => H j
theorem cpy10 {f g : Nat → Int32} {t : Nat} (h : t < 10) : va_cpy f g 0 0 10 t = f t := by
  rw [pk_cpy_in (Nat.zero_le _) (by omega)]
  congr 1
  omega
/-- a past behind Past.keep -/
theorem cHist.push {hp : mHp} {a k w : Nat} {H : Nat → Nat → Int32} {G Dr : Nat → Int32} {PP : Nat → Nat → Int32} {c P : Nat → Int32} {g d : Int32} (hw : w < 6) (hk : k ≤ 6) (h4 : hp (a + 1) = eR tyS 6 (rSet (a + 2))) (h5 : sixAt hp (a + 2) G Dr PP) (h6 : ∀ j, j < k → eq12 (vec (PP ((w + 6 - j) % 6)) (G ((w + 6 - j) % 6)) (Dr ((w + 6 - j) % 6))) (H j)) (hc : eq12 (vec P g d) c) :
    cHist (va_up (sixUp hp (a + 2) ((w + 1) % 6) g d (va_cpy P (PP ((w + 1) % 6)) 0 0 10)) a (eO 2 (oPast (a + 1) (nI ((w + 1) % 6)) (if 6 ≤ nI k then nI k else nI k + 1)))) a (pushK k) (pushH c H) := by
  have hi : (w + 1) % 6 < 6 := Nat.mod_lt _ (by decide)
  refine ⟨(w + 1) % 6, _, _, _, hi, ?_, ?_, ?_, ((h5.up (i := (w + 1) % 6) g d (va_cpy P (PP ((w + 1) % 6)) 0 0 10)).of (fun q q1 q2 => va_up_ne _ _ (by omega))), ?_⟩
  · unfold pushK
    split <;> omega
  · rw [va_up_self]
    congr 2
    unfold pushK
    by_cases e : 6 ≤ k
    · rw [if_pos e, if_pos (show (6 : Int32) ≤ nI k from nI_le (a := 6) e (by omega))]
    · rw [if_neg e, if_neg (show ¬ (6 : Int32) ≤ nI k from nI_ge (b := 6) (by omega) (by decide)), nI_1]
  · rw [va_up_ne _ _ (by omega)]
    unfold sixUp
    rw [va_up_ne _ _ (by omega), va_up_ne _ _ (by omega)]
    exact h4
  · intro j hj
    cases j with
    | zero =>
      have e : ((w + 1) % 6 + 6 - 0) % 6 = (w + 1) % 6 := by omega
      rw [e, va_up_self, va_up_self, va_up_self]
      obtain ⟨c1, c2, c3⟩ := vec_set hc
      exact vec_of (fun t ht => by rw [cpy10 ht]; exact c1 t ht) c2 c3
    | succ j =>
      have hjk : j + 1 < pushK k := hj
      unfold pushK at hjk
      have h5j : j < 5 ∧ j < k := by split at hjk <;> omega
      have e : ((w + 1) % 6 + 6 - (j + 1)) % 6 = (w + 6 - j) % 6 := by omega
      have ne : (w + 6 - j) % 6 ≠ (w + 1) % 6 := by omega
      rw [e, va_up_ne _ _ ne, va_up_ne _ _ ne, va_up_ne _ _ ne]
      exact h6 j h5j.2
theorem sixUp_out {hp : mHp} {b i : Nat} {g d : Int32} {P : Nat → Int32} {q : Nat} (hi : i < 6) (h : q < b ∨ b + 12 ≤ q) : sixUp hp b i g d P q = hp q := by
  unfold sixUp
  rw [va_up_ne _ _ (by omega), va_up_ne _ _ (by omega)]
/-- Past.keep, of any past and any setting apart from it -/
theorem t_keep {n : Nat} {hp : mHp} {a s k : Nat} {c : Nat → Int32} {H : Nat → Nat → Int32} (h1 : cHist hp a k H) (h2 : cSet hp s c) (hs : s + 1 < a ∨ a + 13 < s) : mC D_X2_keep [.ref a, .ref s] n hp (fun v hp' => v = none ∧ cHist hp' a (pushK k) (pushH c H) ∧ ∀ q, (q < a ∨ a + 13 < q) → hp' q = hp q) := by
  obtain ⟨w, G, Dr, PP, q1, q2, q3, q4, q5, q6⟩ := h1
  obtain ⟨P, g, d, p1, p2, p3⟩ := h2
  refine (t_X2_keep q3 q4 q5 p1 p2 q1 (fun i hi => by omega)).mono ?_
  rintro v hp' ⟨rfl, rfl⟩
  refine ⟨rfl, cHist.push q1 q2 q4 q5 q6 p3, fun q hq => ?_⟩
  rw [va_up_ne _ _ (by omega), sixUp_out (Nat.mod_lt _ (by decide)) (by omega)]
theorem t_giveBack {n : Nat} {hp : mHp} {a s k : Nat} {c : Nat → Int32} {H : Nat → Nat → Int32} (h1 : cHist hp a (k + 1) H) (h2 : cSet hp s c) (hs : s + 1 < a ∨ a + 13 < s) : mC D_X2_giveBack [.ref a, .ref s] n hp (fun v hp' => v = none ∧ cSet hp' s (H 0) ∧ cHist hp' a k (fun j => H (j + 1)) ∧ ∀ q, (q < a ∨ a + 13 < q) → q ≠ s → q ≠ s + 1 → hp' q = hp q) := by
  obtain ⟨w, G, Dr, PP, q1, q2, q3, q4, q5, q6⟩ := h1
  obtain ⟨P, g, d, p1, p2, p3⟩ := h2
  refine (t_X2_giveBack q3 q4 q5 p1 p2 q1 (fun i hi => by omega)).mono ?_
  rintro v hp' ⟨rfl, rfl⟩
  have e0 : (w + 6 - 0) % 6 = w := by omega
  have z0 := q6 0 (by omega)
  rw [e0] at z0
  obtain ⟨c1, c2, c3⟩ := vec_set z0
  refine ⟨rfl, ⟨va_cpy (PP w) P 0 0 10, G w, Dr w, ?_, ?_, vec_of (fun t ht => by rw [cpy10 ht]; exact c1 t ht) c2 c3⟩, ⟨(w + 5) % 6, G, Dr, PP, Nat.mod_lt _ (by decide), by omega, ?_, ?_, q5.of (fun q r1 r2 => ?_), fun j hj => ?_⟩, fun q hq r1 r2 => ?_⟩
  · rw [va_up_ne _ _ (by omega), va_up_self]
  · rw [va_up_ne _ _ (by omega), va_up_ne _ _ (by omega), va_up_self]
  · rw [va_up_self, show (nI (k + 1) - 1 : Int32) = nI k from nI_pred k]
  · rw [va_up_ne _ _ (by omega), va_up_ne _ _ (by omega), va_up_ne _ _ (by omega)]
    exact q4
  · rw [va_up_ne _ _ (by omega), va_up_ne _ _ (by omega), va_up_ne _ _ (by omega)]
  · have e : ((w + 5) % 6 + 6 - j) % 6 = (w + 6 - (j + 1)) % 6 := by omega
    rw [e]
    exact q6 (j + 1) (by omega)
  · rw [va_up_ne _ _ (by omega), va_up_ne _ _ r1, va_up_ne _ _ r2]
theorem t_becomeS {n : Nat} {hp : mHp} {a b : Nat} {c c' : Nat → Int32} (h1 : cSet hp a c) (h2 : cSet hp b c') (hab : a + 1 < b ∨ b + 1 < a) : mC D_X3_become [.ref a, .ref b] n hp (fun v hp' => v = none ∧ cSet hp' a c' ∧ ∀ q, q ≠ a → q ≠ a + 1 → hp' q = hp q) := by
  obtain ⟨P, g, d, p1, p2, p3⟩ := h1
  obtain ⟨P', g', d', q1, q2, q3⟩ := h2
  refine (t_X3_become p1 p2 q1 q2 (by omega)).mono ?_
  rintro v hp' ⟨rfl, rfl⟩
  obtain ⟨c1, c2, c3⟩ := vec_set q3
  refine ⟨rfl, ⟨va_cpy P' P 0 0 10, g', d', va_up_self _ _ _, ?_, vec_of (fun t ht => by rw [cpy10 ht]; exact c1 t ht) c2 c3⟩, fun q r1 r2 => ?_⟩
  · rw [va_up_ne _ _ (by omega), va_up_self]
  · rw [va_up_ne _ _ r1, va_up_ne _ _ r2]
theorem t_becomeP {n : Nat} {hp : mHp} {a b k k' : Nat} {H H' : Nat → Nat → Int32} (h1 : cHist hp a k H) (h2 : cHist hp b k' H') (hab : a + 13 < b ∨ b + 13 < a) : mC D_X2_become [.ref a, .ref b] n hp (fun v hp' => v = none ∧ cHist hp' a k' H' ∧ ∀ q, (q < a ∨ a + 13 < q) → hp' q = hp q) := by
  obtain ⟨w, G, Dr, PP, a1, a2, a3, a4, a5, a6⟩ := h1
  obtain ⟨w', G', Dr', PP', b1, b2, b3, b4, b5, b6⟩ := h2
  refine (t_X2_become a3 a4 a5 b3 b4 b5 (by omega) (by omega) (by omega) (by omega) (by omega) (by omega)).mono ?_
  rintro v hp' ⟨rfl, rfl⟩
  refine ⟨rfl, ⟨w', G', Dr', fun i => va_cpy (PP' i) (PP i) 0 0 10, b1, b2, va_up_self _ _ _, ?_, fun i hi => ?_, fun j hj => ?_⟩, fun q hq => ?_⟩
  · rw [va_up_ne _ _ (by omega), sixCp_out 6 (by omega) (by omega)]
    exact a4
  · rw [va_up_ne _ _ (by omega), va_up_ne _ _ (by omega)]
    exact sixCp_at 6 hi
  · obtain ⟨c1, c2, c3⟩ := vec_set (b6 j hj)
    exact vec_of (fun t ht => (cpy10 ht).trans (c1 t ht)) c2 c3
  · rw [va_up_ne _ _ (by omega), sixCp_out 6 (by omega) (by omega)]
def cTop (hp : mHp) (kf : Int32) : Prop := hp 0 = eO 7 (oTop kf)
