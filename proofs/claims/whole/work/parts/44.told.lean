/-! proof of the class: what a group tells. -/
/-- seen alike of the set -/
def al (S : Nat → Nat → Nat) (x : Nat) (f g : Nat → Nat) : Bool := decide (∀ v, v < S 0 1 → inS x v = true → f v = g v)
theorem al_iff {S : Nat → Nat → Nat} {x : Nat} {f g : Nat → Nat} : al S x f g = true ↔ ∀ v, v < S 0 1 → inS x v = true → f v = g v := decide_eq_true_iff
/-- the next group, of the winds below i that turn the set as q does -/
def nx (S : Nat → Nat → Nat) (x h q : Nat) (f : Nat → Nat) (gl : List (Nat → Nat)) : Nat → List (Nat → Nat)
  | 0 => []
  | i + 1 => nx S x h q f gl i ++ cond (al S x (tf S f i) (tf S f q)) (cond (may S h i) (ext S h i gl) []) []
/-- how the head of a group points -/
def hdp (S : Nat → Nat → Nat) (h : Nat) (gl : List (Nat → Nat)) : Nat → Nat := match gl with
  | [] => fun _ => 0
  | w :: _ => fun v => ps S w v h
def one (a : Nat) (gl : List (Nat → Nat)) : Bool := decide (∀ w, w ∈ gl → ∀ u, u ∈ gl → w a = u a)
theorem one_iff {a : Nat} {gl : List (Nat → Nat)} : one a gl = true ↔ ∀ w, w ∈ gl → ∀ u, u ∈ gl → w a = u a := decide_eq_true_iff
/-- the group tells the wind of hour a -/
def tw (S : Nat → Nat → Nat) (x a : Nat) : Nat → Nat → List (Nat → Nat) → Bool
  | 0, _, gl => one a gl
  | n + 1, h, gl => tw S x a n (h + 1) (nx S x h 0 (hdp S h gl) gl 4) && (tw S x a n (h + 1) (nx S x h 1 (hdp S h gl) gl 4) && (tw S x a n (h + 1) (nx S x h 2 (hdp S h gl) gl 4) && tw S x a n (h + 1) (nx S x h 3 (hdp S h gl) gl 4)))
theorem tw_s {S : Nat → Nat → Nat} {x a n h : Nat} {gl : List (Nat → Nat)} : tw S x a (n + 1) h gl = true ↔ ∀ q, q < 4 → tw S x a n (h + 1) (nx S x h q (hdp S h gl) gl 4) = true := by
  rw [tw, Bool.and_eq_true, Bool.and_eq_true, Bool.and_eq_true]
  constructor
  · rintro ⟨h0, h1, h2, h3⟩ q hq
    match q, hq with
    | 0, _ => exact h0
    | 1, _ => exact h1
    | 2, _ => exact h2
    | 3, _ => exact h3
  · exact fun z => ⟨z 0 (by decide), z 1 (by decide), z 2 (by decide), z 3 (by decide)⟩
theorem ext_mem {S : Nat → Nat → Nat} {h q : Nat} {gl : List (Nat → Nat)} {z : Nat → Nat} : z ∈ ext S h q gl ↔ ∃ w, w ∈ gl ∧ okw S h q w = true ∧ z = su w h q := by
  unfold ext
  rw [List.mem_map]
  constructor
  · rintro ⟨w, hw, rfl⟩
    rw [List.mem_filter] at hw
    exact ⟨w, hw.1, hw.2, rfl⟩
  · rintro ⟨w, h1, h2, rfl⟩
    exact ⟨w, List.mem_filter.mpr ⟨h1, h2⟩, rfl⟩
theorem nx_mem {S : Nat → Nat → Nat} {x h q : Nat} {f : Nat → Nat} {gl : List (Nat → Nat)} {z : Nat → Nat} : ∀ {i}, z ∈ nx S x h q f gl i ↔ ∃ p, p < i ∧ al S x (tf S f p) (tf S f q) = true ∧ may S h p = true ∧ ∃ w, w ∈ gl ∧ okw S h p w = true ∧ z = su w h p
  | 0 => by
    constructor
    · intro hz
      exact absurd hz List.not_mem_nil
    · rintro ⟨p, hp, _⟩
      exact absurd hp (Nat.not_lt_zero _)
  | i + 1 => by
    rw [nx, List.mem_append, nx_mem (i := i)]
    constructor
    · rintro (⟨p, hp, e⟩ | hz)
      · exact ⟨p, by omega, e⟩
      · cases ha : al S x (tf S f i) (tf S f q) with
        | false => rw [ha] at hz; exact absurd hz List.not_mem_nil
        | true =>
          cases hm : may S h i with
          | false => rw [ha, hm] at hz; exact absurd hz List.not_mem_nil
          | true =>
            rw [ha, hm] at hz
            exact ⟨i, by omega, ha, hm, ext_mem.mp hz⟩
    · rintro ⟨p, hp, ha, hm, e⟩
      by_cases hpi : p = i
      · subst hpi
        refine Or.inr ?_
        rw [ha, hm]
        exact ext_mem.mpr e
      · exact Or.inl ⟨p, by omega, ha, hm, e⟩
/-- w' is a day that goes on from w, fitting from hour h on -/
def xt (S : Nat → Nat → Nat) : Nat → Nat → (Nat → Nat) → (Nat → Nat) → Prop
  | 0, _, w, w' => w' = w
  | n + 1, h, w, w' => ∃ q, q < 4 ∧ may S h q = true ∧ okw S h q w = true ∧ xt S n (h + 1) (su w h q) w'
theorem xt_pre {S : Nat → Nat → Nat} : ∀ {n h : Nat} {w w' : Nat → Nat}, xt S n h w w' → ∀ i, i < h → w' i = w i
  | 0, _, _, _, e, i, _ => by rw [show _ = _ from e]
  | n + 1, h, w, w', e, i, hi => by
    obtain ⟨q, _, _, _, e⟩ := e
    rw [xt_pre e i (by omega), su_ne _ _ (by omega)]
theorem ps_pre {S : Nat → Nat → Nat} {w w' : Nat → Nat} {h q v : Nat} (e : ∀ i, i < h + 1 → w' i = su w h q i) : ps S w' v (h + 1) = tf S (fun v => ps S w v h) q v := by
  rw [ps_congr (h + 1) e]
  exact congrFun (ps_su (S := S) (w := w) (h := h) (q := q)) v
theorem tf_al {S : Nat → Nat → Nat} {x q : Nat} {f g : Nat → Nat} (h : al S x f g = true) : al S x (tf S f q) (tf S g q) = true := by
  rw [al_iff] at h ⊢
  intro v hv hx
  show tv S v (f v) q = tv S v (g v) q
  rw [h v hv hx]
theorem al_tr {S : Nat → Nat → Nat} {x : Nat} {f g k : Nat → Nat} (h1 : al S x f g = true) (h2 : al S x g k = true) : al S x f k = true := by
  rw [al_iff] at h1 h2 ⊢
  exact fun v hv hx => (h1 v hv hx).trans (h2 v hv hx)
theorem al_sy {S : Nat → Nat → Nat} {x : Nat} {f g : Nat → Nat} (h : al S x f g = true) : al S x g f = true := by
  rw [al_iff] at h ⊢
  exact fun v hv hx => (h v hv hx).symm
theorem al_rf {S : Nat → Nat → Nat} {x : Nat} {f : Nat → Nat} : al S x f f = true := al_iff.mpr (fun _ _ _ => rfl)
/-- all of a group are alike at its hour -/
def ali (S : Nat → Nat → Nat) (x h : Nat) (gl : List (Nat → Nat)) : Prop := ∀ w, w ∈ gl → ∀ u, u ∈ gl → al S x (fun v => ps S w v h) (fun v => ps S u v h) = true
theorem ali_hd {S : Nat → Nat → Nat} {x h : Nat} {gl : List (Nat → Nat)} (ha : ali S x h gl) {w : Nat → Nat} (hw : w ∈ gl) : al S x (fun v => ps S w v h) (hdp S h gl) = true := by
  cases gl with
  | nil => exact absurd hw List.not_mem_nil
  | cons u r => exact ha w hw u List.mem_cons_self
theorem ali_nx {S : Nat → Nat → Nat} {x h q : Nat} {gl : List (Nat → Nat)} (ha : ali S x h gl) : ali S x (h + 1) (nx S x h q (hdp S h gl) gl 4) := by
  have one : ∀ z, z ∈ nx S x h q (hdp S h gl) gl 4 → al S x (fun v => ps S z v (h + 1)) (tf S (hdp S h gl) q) = true := by
    intro z hz
    obtain ⟨p, hp, e1, e2, w, hw, e3, rfl⟩ := nx_mem.mp hz
    rw [ps_su]
    exact al_tr (tf_al (ali_hd ha hw)) e1
  exact fun w hw u hu => al_tr (one w hw) (al_sy (one u hu))
theorem tw_iff {S : Nat → Nat → Nat} {x a : Nat} : ∀ n h gl, ali S x h gl → (tw S x a n h gl = true ↔ ∀ w, w ∈ gl → ∀ u, u ∈ gl → ∀ w' u', xt S n h w w' → xt S n h u u' → (∀ j, h < j → j ≤ h + n → al S x (fun v => ps S w' v j) (fun v => ps S u' v j) = true) → w' a = u' a)
  | 0, h, gl, ha => by
    rw [tw, one_iff]
    constructor
    · intro z w hw u hu w' u' e1 e2 _
      rw [show w' = w from e1, show u' = u from e2]
      exact z w hw u hu
    · intro z w hw u hu
      exact z w hw u hu w u rfl rfl (fun j h1 h2 => absurd h2 (by omega))
  | n + 1, h, gl, ha => by
    rw [tw_s]
    have ih := fun q => tw_iff (S := S) (x := x) (a := a) n (h + 1) (nx S x h q (hdp S h gl) gl 4) (ali_nx ha)
    constructor
    · rintro z w hw u hu w' u' ⟨p1, hp1, m1, k1, e1⟩ ⟨p2, hp2, m2, k2, e2⟩ hj
      have hd := hj (h + 1) (by omega) (by omega)
      have g1 : al S x (fun v => ps S w' v (h + 1)) (tf S (hdp S h gl) p1) = true := by
        rw [show (fun v => ps S w' v (h + 1)) = tf S (fun v => ps S w v h) p1 from funext fun v => ps_pre (xt_pre e1)]
        exact tf_al (ali_hd ha hw)
      have g2 : al S x (fun v => ps S u' v (h + 1)) (tf S (hdp S h gl) p2) = true := by
        rw [show (fun v => ps S u' v (h + 1)) = tf S (fun v => ps S u v h) p2 from funext fun v => ps_pre (xt_pre e2)]
        exact tf_al (ali_hd ha hu)
      have g3 : al S x (tf S (hdp S h gl) p2) (tf S (hdp S h gl) p1) = true := al_tr (al_sy g2) (al_tr (al_sy hd) g1)
      exact (ih p1).mp (z p1 hp1) _ (nx_mem.mpr ⟨p1, hp1, al_rf, m1, w, hw, k1, rfl⟩) _ (nx_mem.mpr ⟨p2, hp2, g3, m2, u, hu, k2, rfl⟩) w' u' e1 e2 (fun j h1 h2 => hj j (by omega) (by omega))
    · intro z q hq
      rw [ih q]
      intro w1 hw1 u1 hu1 w' u' e1 e2 hj
      have hN := ali_nx (q := q) ha w1 hw1 u1 hu1
      obtain ⟨p1, hp1, a1, m1, w, hw, k1, rfl⟩ := nx_mem.mp hw1
      obtain ⟨p2, hp2, a2, m2, u, hu, k2, rfl⟩ := nx_mem.mp hu1
      refine z w hw u hu w' u' ⟨p1, hp1, m1, k1, e1⟩ ⟨p2, hp2, m2, k2, e2⟩ (fun j h1 h2 => ?_)
      by_cases hje : j = h + 1
      · subst hje
        rw [show (fun v => ps S w' v (h + 1)) = (fun v => ps S (su w h p1) v (h + 1)) from funext fun v => ps_congr (h + 1) (xt_pre e1), show (fun v => ps S u' v (h + 1)) = (fun v => ps S (su u h p2) v (h + 1)) from funext fun v => ps_congr (h + 1) (xt_pre e2)]
        exact hN
      · exact hj j (by omega) (by omega)
theorem nx_nil {S : Nat → Nat → Nat} {x h q : Nat} {f : Nat → Nat} : ∀ i, nx S x h q f [] i = []
  | 0 => rfl
  | i + 1 => by
    rw [nx, nx_nil i]
    show cond _ (cond _ [] []) [] = _
    cases al S x (tf S f i) (tf S f q) <;> cases may S h i <;> rfl
theorem tw_nil {S : Nat → Nat → Nat} {x a : Nat} : ∀ n h, tw S x a n h [] = true
  | 0, h => one_iff.mpr (fun w hw => absurd hw List.not_mem_nil)
  | n + 1, h => tw_s.mpr (fun q _ => by rw [nx_nil]; exact tw_nil n (h + 1))
theorem tw_one {S : Nat → Nat → Nat} {x a : Nat} : ∀ n h gl, a < h → one a gl = true → tw S x a n h gl = true
  | 0, h, gl, _, ho => ho
  | n + 1, h, gl, ha, ho => tw_s.mpr (fun q _ => tw_one n (h + 1) _ (by omega) (one_iff.mpr (fun w1 hw1 u1 hu1 => by
      obtain ⟨p1, hp1, a1, m1, w, hw, k1, rfl⟩ := nx_mem.mp hw1
      obtain ⟨p2, hp2, a2, m2, u, hu, k2, rfl⟩ := nx_mem.mp hu1
      rw [su_ne _ _ (by omega), su_ne _ _ (by omega)]
      exact one_iff.mp ho w hw u hu)))
theorem nx_cg {S : Nat → Nat → Nat} {x h q q' : Nat} {f : Nat → Nat} {gl : List (Nat → Nat)} (e : al S x (tf S f q) (tf S f q') = true) : ∀ i, nx S x h q f gl i = nx S x h q' f gl i
  | 0 => rfl
  | i + 1 => by
    rw [nx, nx, nx_cg e i]
    have : al S x (tf S f i) (tf S f q) = al S x (tf S f i) (tf S f q') := by
      cases h1 : al S x (tf S f i) (tf S f q) with
      | true => exact (al_tr h1 e).symm
      | false =>
        cases h2 : al S x (tf S f i) (tf S f q') with
        | false => rfl
        | true => rw [al_tr h2 (al_sy e)] at h1; exact h1.symm
    rw [this]
-- all days that fit
theorem sg_ne {g : Nat → Nat} : ∀ {n}, sg n g ≠ 0 ↔ ∃ i, i < n ∧ g i ≠ 0
  | 0 => ⟨fun h => absurd rfl h, fun ⟨i, hi, _⟩ => absurd hi (Nat.not_lt_zero i)⟩
  | n + 1 => by
    show sg n g + g n ≠ 0 ↔ _
    constructor
    · intro h
      by_cases h0 : g n = 0
      · obtain ⟨i, hi, e⟩ := (sg_ne (g := g) (n := n)).mp (by omega)
        exact ⟨i, by omega, e⟩
      · exact ⟨n, by omega, h0⟩
    · rintro ⟨i, hi, e⟩
      by_cases hin : i = n
      · subst hin; omega
      · have := (sg_ne (g := g) (n := n)).mpr ⟨i, by omega, e⟩
        omega
theorem xt_cn {S : Nat → Nat → Nat} {P : (Nat → Nat) → Bool} : ∀ {n h : Nat} {w : Nat → Nat}, cn S n h w (fun w' => fh S n h w' && P w') ≠ 0 ↔ ∃ w', xt S n h w w' ∧ P w' = true
  | 0, h, w => by
    show bn (true && P w) ≠ 0 ↔ _
    rw [Bool.true_and]
    constructor
    · intro e
      cases hP : P w with
      | false => rw [hP] at e; exact absurd rfl e
      | true => exact ⟨w, rfl, hP⟩
    · rintro ⟨w', e, hP⟩
      rw [show w' = w from e] at hP
      rw [hP]
      decide
  | n + 1, h, w => by
    rw [cn_step, sg_ne]
    have ek : ∀ q, okq S h (fun v => ps S w v h) q = (may S h q && okw S h q w) := fun q => by
      unfold okq okw
      rw [ps_su]
    constructor
    · rintro ⟨q, hq, e⟩
      cases hk : okq S h (fun v => ps S w v h) q with
      | false => rw [hk] at e; exact absurd rfl e
      | true =>
        rw [hk] at e
        obtain ⟨w', e1, e2⟩ := xt_cn.mp e
        rw [ek, Bool.and_eq_true] at hk
        exact ⟨w', ⟨q, hq, hk.1, hk.2, e1⟩, e2⟩
    · rintro ⟨w', ⟨q, hq, m, k, e1⟩, e2⟩
      refine ⟨q, hq, ?_⟩
      rw [ek, m, k]
      exact xt_cn.mpr ⟨w', e1, e2⟩
theorem xt_code {S : Nat → Nat → Nat} (hR : dR S) (hN : nR S) (P : (Nat → Nat) → Bool) : (∃ w', xt S (S 0 0) 0 (fun _ => 0) w' ∧ P w' = true) ↔ ∃ c, c < nc S ∧ ft S (wd S c) = true ∧ P (wd S c) = true := by
  rw [← xt_cn]
  have e : cn S (S 0 0) 0 (fun _ => 0) (fun w' => fh S (S 0 0) 0 w' && P w') = cnt S P := by
    unfold cnt
    simp only [fh_ft hN]
  rw [e, cnt_codes hR, sg_ne]
  constructor
  · rintro ⟨c, hc, h⟩
    refine ⟨c, hc, ?_⟩
    cases h1 : ft S (wd S c) with
    | false => rw [h1] at h; exact absurd rfl h
    | true =>
      cases h2 : P (wd S c) with
      | false => rw [h1, h2] at h; exact absurd rfl h
      | true => exact ⟨rfl, rfl⟩
  · rintro ⟨c, hc, h1, h2⟩
    refine ⟨c, hc, ?_⟩
    rw [h1, h2]
    decide
theorem xt_of {S : Nat → Nat → Nat} (hR : dR S) (hN : nR S) {w' : Nat → Nat} (h : xt S (S 0 0) 0 (fun _ => 0) w') : ∃ c, c < nc S ∧ ft S (wd S c) = true ∧ w' = wd S c := by
  obtain ⟨c, h1, h2, h3⟩ := (xt_code hR hN (fun u => @decide (w' = u) (Classical.propDecidable _))).mp ⟨w', h, @decide_eq_true _ (Classical.propDecidable _) rfl⟩
  exact ⟨c, h1, h2, @of_decide_eq_true _ (Classical.propDecidable _) h3⟩
theorem xt_to {S : Nat → Nat → Nat} (hR : dR S) (hN : nR S) {c : Nat} (hc : c < nc S) (hf : ft S (wd S c) = true) : xt S (S 0 0) 0 (fun _ => 0) (wd S c) := by
  obtain ⟨w', h1, h2⟩ := (xt_code hR hN (fun u => @decide (wd S c = u) (Classical.propDecidable _))).mpr ⟨c, hc, hf, @decide_eq_true _ (Classical.propDecidable _) rfl⟩
  have e : wd S c = w' := @of_decide_eq_true _ (Classical.propDecidable _) h2
  rw [e]
  exact h1
theorem tw_TL {S : Nat → Nat → Nat} (hR : dR S) (hN : nR S) {x a : Nat} : tw S x a (S 0 0) 0 [fun _ => 0] = TL S a x := by
  have ha : ali S x 0 [fun _ => 0] := fun w hw u hu => by
    rw [List.mem_singleton] at hw hu
    rw [hw, hu]
    exact al_rf
  have e : tw S x a (S 0 0) 0 [fun _ => 0] = true ↔ TL S a x = true := by
    rw [tw_iff _ _ _ ha]
    unfold TL
    rw [decide_eq_true_iff]
    constructor
    · intro z c hc d hd hfc hfd hal
      refine z _ (List.mem_singleton.mpr rfl) _ (List.mem_singleton.mpr rfl) _ _ (xt_to hR hN hc hfc) (xt_to hR hN hd hfd) (fun j h1 h2 => ?_)
      rw [al_iff]
      intro v hv hx
      have := of_decide_eq_true hal v hv hx (j - 1) (by omega)
      rw [show j - 1 + 1 = j by omega] at this
      exact this
    · intro z w hw u hu w' u' e1 e2 hj
      rw [List.mem_singleton] at hw hu
      subst hw
      subst hu
      obtain ⟨c, hc, hfc, rfl⟩ := xt_of hR hN e1
      obtain ⟨d, hd, hfd, rfl⟩ := xt_of hR hN e2
      exact z c hc d hd hfc hfd (decide_eq_true (fun v hv hx k hk => al_iff.mp (hj (k + 1) (by omega) (by omega)) v hv hx))
  cases h1 : tw S x a (S 0 0) 0 [fun _ => 0] <;> cases h2 : TL S a x <;> simp_all
-- the masks of a set
theorem zp_and {f g : Nat → Nat} : ∀ {n}, (∀ i, i < n → f i < 4) → (∀ i, i < n → g i < 4) → zp n f &&& zp n g = zp n (fun v => f v &&& g v)
  | 0, _, _ => Nat.zero_and 0
  | n + 1, hf, hg => by
    have h1 := zp_lt (n := n) (fun i hi => hf i (by omega))
    have h2 := zp_lt (n := n) (fun i hi => hg i (by omega))
    have ih := zp_and (f := f) (g := g) (n := n) (fun i hi => hf i (by omega)) (fun i hi => hg i (by omega))
    have e4 : (4 : Nat) ^ n = 2 ^ (2 * n) := by rw [Nat.pow_mul]
    show (zp n f + f n * 4 ^ n) &&& (zp n g + g n * 4 ^ n) = zp n (fun v => f v &&& g v) + (f n &&& g n) * 4 ^ n
    rw [e4] at h1 h2 ⊢
    have hp : 0 < 2 ^ (2 * n) := Nat.pow_pos (by decide)
    have d1 : ((zp n f + f n * 2 ^ (2 * n)) &&& (zp n g + g n * 2 ^ (2 * n))) / 2 ^ (2 * n) = f n &&& g n := by
      rw [Nat.and_div_two_pow, Nat.add_mul_div_right _ _ hp, Nat.add_mul_div_right _ _ hp, Nat.div_eq_of_lt h1, Nat.div_eq_of_lt h2, Nat.zero_add, Nat.zero_add]
    have m1 : ((zp n f + f n * 2 ^ (2 * n)) &&& (zp n g + g n * 2 ^ (2 * n))) % 2 ^ (2 * n) = zp n (fun v => f v &&& g v) := by
      rw [Nat.and_mod_two_pow, Nat.add_mul_mod_self_right, Nat.add_mul_mod_self_right, Nat.mod_eq_of_lt h1, Nat.mod_eq_of_lt h2, ih]
    have := Nat.div_add_mod ((zp n f + f n * 2 ^ (2 * n)) &&& (zp n g + g n * 2 ^ (2 * n))) (2 ^ (2 * n))
    rw [d1, m1] at this
    rw [← this, Nat.mul_comm, Nat.add_comm]
/-- the bits of a set's vanes -/
def bz (x n : Nat) : Nat := zp n (fun v => cond (inS x v) 3 0)
theorem b34 (b : Bool) : cond b 3 0 < 4 := by cases b <;> decide
theorem bz_and {x : Nat} {f : Nat → Nat} {n : Nat} (hf : ∀ v, v < n → f v < 4) : zp n f &&& bz x n = zp n (fun v => cond (inS x v) (f v) 0) := by
  unfold bz
  rw [zp_and hf (fun _ _ => b34 _)]
  apply zp_congr
  intro v hv
  have h3 : ∀ a, a < 4 → a &&& 3 = a := by decide
  cases inS x v with
  | true => exact h3 _ (hf v hv)
  | false => exact Nat.and_zero _
theorem zp_inj {f g : Nat → Nat} {n : Nat} (hf : ∀ v, v < n → f v < 4) (hg : ∀ v, v < n → g v < 4) (h : zp n f = zp n g) : ∀ v, v < n → f v = g v := by
  intro v hv
  rw [← zp_at hf hv, ← zp_at hg hv, h]
theorem bz_al {S : Nat → Nat → Nat} {x : Nat} {f g : Nat → Nat} (hf : ∀ v, v < S 0 1 → f v < 4) (hg : ∀ v, v < S 0 1 → g v < 4) : (zp (S 0 1) f &&& bz x (S 0 1) = zp (S 0 1) g &&& bz x (S 0 1)) ↔ al S x f g = true := by
  rw [bz_and hf, bz_and hg, al_iff]
  constructor
  · intro h v hv hx
    have := zp_inj (f := fun v => cond (inS x v) (f v) 0) (g := fun v => cond (inS x v) (g v) 0) (fun v hv => by cases inS x v with | true => exact hf v hv | false => exact (by decide : 0 < 4)) (fun v hv => by cases inS x v with | true => exact hg v hv | false => exact (by decide : 0 < 4)) h v hv
    simp only [hx] at this
    exact this
  · intro h
    apply zp_congr
    intro v hv
    cases hx : inS x v with
    | false => rfl
    | true => exact h v hv hx
-- how many winds turn a vane alike
theorem trn_two : ∀ k, k < 5 → ∀ t, t < 4 → ∀ a, a < 4 → ∀ q, q < 4 → ct (fun i => Nat.beq (trn k t a i) (trn k t a q)) 4 ≤ 2 := by decide +kernel
theorem ct_mono {P P' : Nat → Bool} : ∀ {n}, (∀ i, i < n → P i = true → P' i = true) → ct P n ≤ ct P' n
  | 0, _ => Nat.le_refl _
  | n + 1, h => by
    have h1 := ct_mono (P := P) (P' := P') (n := n) (fun i hi => h i (by omega))
    show ct P n + bn (P n) ≤ ct P' n + bn (P' n)
    cases hp : P n with
    | false => rw [bn_f rfl]; omega
    | true => rw [h n (by omega) hp]; omega
theorem ct_up {P : Nat → Bool} {n : Nat} : ∀ {m}, n ≤ m → ct P n ≤ ct P m
  | 0, h => by rw [show n = 0 by omega]; exact Nat.le_refl _
  | m + 1, h => by
    by_cases e : n = m + 1
    · rw [e]; exact Nat.le_refl _
    · have := ct_up (P := P) (n := n) (m := m) (by omega)
      show ct P n ≤ ct P m + bn (P m)
      omega
theorem nx_a {S : Nat → Nat → Nat} {x h q i : Nat} {f : Nat → Nat} {gl : List (Nat → Nat)} (e : al S x (tf S f i) (tf S f q) = false) : nx S x h q f gl (i + 1) = nx S x h q f gl i := by
  rw [nx, e]
  exact List.append_nil _
theorem nx_b {S : Nat → Nat → Nat} {x h q i : Nat} {f : Nat → Nat} {gl : List (Nat → Nat)} (e : al S x (tf S f i) (tf S f q) = true) (m : may S h i = false) : nx S x h q f gl (i + 1) = nx S x h q f gl i := by
  rw [nx, e, m]
  exact List.append_nil _
theorem nx_c {S : Nat → Nat → Nat} {x h q i : Nat} {f : Nat → Nat} {gl : List (Nat → Nat)} (e : al S x (tf S f i) (tf S f q) = true) (m : may S h i = true) : nx S x h q f gl (i + 1) = nx S x h q f gl i ++ ext S h i gl := by
  rw [nx, e, m]
  rfl
theorem al_two {S : Nat → Nat → Nat} (hR : dR S) {x v q : Nat} {f : Nat → Nat} (hv : v < S 0 1) (hx : inS x v = true) (hf : f v < 4) (hq : q < 4) : ct (fun i => al S x (tf S f i) (tf S f q)) 4 ≤ 2 := by
  obtain ⟨k1, k2, k3⟩ := hR.2.2.2 v hv
  refine Nat.le_trans (ct_mono (fun i hi h => ?_)) (trn_two (S 2 v) (by omega) (S 4 v) k3 (f v) hf q hq)
  exact beq_t (al_iff.mp h v hv hx)
theorem nx_len {S : Nat → Nat → Nat} {x h q : Nat} {f : Nat → Nat} {gl : List (Nat → Nat)} : ∀ i, (nx S x h q f gl i).length ≤ ct (fun i => al S x (tf S f i) (tf S f q)) i * gl.length
  | 0 => Nat.zero_le _
  | i + 1 => by
    have ih := nx_len (S := S) (x := x) (h := h) (q := q) (f := f) (gl := gl) i
    rw [nx, List.length_append, ct, Nat.add_mul]
    have : (cond (al S x (tf S f i) (tf S f q)) (cond (may S h i) (ext S h i gl) []) []).length ≤ bn (al S x (tf S f i) (tf S f q)) * gl.length := by
      cases al S x (tf S f i) (tf S f q) with
      | false => exact Nat.zero_le _
      | true =>
        rw [bn_t rfl, Nat.one_mul]
        cases may S h i with
        | false => exact Nat.zero_le _
        | true => exact ext_le
    omega
theorem nx_lt {S : Nat → Nat → Nat} {x h q : Nat} {f : Nat → Nat} {gl : List (Nat → Nat)} {i : Nat} (hi : i ≤ 4) (hg : ∀ w, w ∈ gl → ∀ j, j < h → w j < 4) : ∀ z, z ∈ nx S x h q f gl i → ∀ j, j < h + 1 → z j < 4 := by
  intro z hz j hj
  obtain ⟨p, hp, e1, e2, w, hw, e3, rfl⟩ := nx_mem.mp hz
  rw [su_if]
  by_cases e : j = h
  · rw [if_t e]; omega
  · rw [if_f e]; exact hg w hw j (by omega)
-- the winds that are done
def dn (S : Nat → Nat → Nat) (x : Nat) (f : Nat → Nat) : Nat → Nat → Bool
  | 0, _ => false
  | i + 1, p => dn S x f i p || al S x (tf S f p) (tf S f i)
theorem dn_ex {S : Nat → Nat → Nat} {x : Nat} {f : Nat → Nat} {p : Nat} : ∀ {i}, dn S x f i p = true ↔ ∃ q, q < i ∧ al S x (tf S f p) (tf S f q) = true
  | 0 => ⟨fun h => (Bool.false_ne_true h).elim, fun ⟨q, hq, _⟩ => absurd hq (Nat.not_lt_zero q)⟩
  | i + 1 => by
    rw [dn, Bool.or_eq_true, dn_ex]
    constructor
    · rintro (⟨q, hq, e⟩ | e)
      · exact ⟨q, by omega, e⟩
      · exact ⟨i, by omega, e⟩
    · rintro ⟨q, hq, e⟩
      by_cases h : q = i
      · subst h; exact Or.inr e
      · exact Or.inl ⟨q, by omega, e⟩
theorem dn_skip {S : Nat → Nat → Nat} {x : Nat} {f : Nat → Nat} {i : Nat} (h : dn S x f i i = true) (p : Nat) : dn S x f (i + 1) p = dn S x f i p := by
  rw [dn]
  cases h1 : dn S x f i p with
  | true => rfl
  | false =>
    cases h2 : al S x (tf S f p) (tf S f i) with
    | false => rfl
    | true =>
      obtain ⟨q, hq, e⟩ := dn_ex.mp h
      rw [dn_ex.mpr ⟨q, hq, al_tr h2 e⟩] at h1
      exact absurd h1 (by decide)
theorem bq_or3 {f g : Nat → Bool} {n : Nat} : bq n (fun v => bn (f v)) ||| bq n (fun v => bn (g v)) = bq n (fun v => bn (f v || g v)) := by
  apply Nat.eq_of_testBit_eq
  intro i
  rw [Nat.testBit_or, ← inS_tb, ← inS_tb, ← inS_tb, inS_bq, inS_bq, inS_bq (f := fun v => f v || g v)]
  cases decide (i < n) <;> cases f i <;> cases g i <;> rfl
