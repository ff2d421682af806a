/-! The law's gusts. -/
def un (S : Nat → Nat → Nat) : Nat → Bool := fun h => Nat.beq (S 1 h) 4
def dg (S : Nat → Nat → Nat) (s h : Nat) : Nat := ns (sd S s h) / 65536 % 4
/-- the code of a day's drawn winds: from an hour on, until an hour -/
def gr (S : Nat → Nat → Nat) (s : Nat) : Nat → Nat → Nat
  | 0, _ => 0
  | n + 1, h => cond (Nat.beq (S 1 h) 4) (dg S s h + 4 * gr S s n (h + 1)) (gr S s n (h + 1))
def gc (S : Nat → Nat → Nat) (s : Nat) : Nat → Nat
  | 0 => 0
  | h + 1 => cond (Nat.beq (S 1 h) 4) (gc S s h + 4 ^ ct (un S) h * dg S s h) (gc S s h)
theorem gc_gr {S : Nat → Nat → Nat} {s : Nat} : ∀ (n h : Nat), gc S s h + 4 ^ ct (un S) h * gr S s n h = gc S s (h + n)
  | 0, h => by simp [gr]
  | n + 1, h => by
    rw [show h + (n + 1) = h + 1 + n by omega, ← gc_gr n (h + 1), gr, gc, ct, show un S h = Nat.beq (S 1 h) 4 from rfl]
    cases Nat.beq (S 1 h) 4 with
    | true =>
      show gc S s h + 4 ^ ct (un S) h * (dg S s h + 4 * gr S s n (h + 1)) = gc S s h + 4 ^ ct (un S) h * dg S s h + 4 ^ (ct (un S) h + 1) * gr S s n (h + 1)
      rw [Nat.mul_add, Nat.pow_succ, Nat.mul_assoc, Nat.add_assoc]
    | false => rfl
theorem gc_N {S : Nat → Nat → Nat} {s n : Nat} : gc S s n = gr S s n 0 := by
  have e := gc_gr (S := S) (s := s) n 0
  rw [Nat.zero_add] at e
  rw [← e]
  show 0 + 4 ^ 0 * gr S s n 0 = gr S s n 0
  rw [Nat.pow_zero, Nat.one_mul, Nat.zero_add]
theorem gc_lt {S : Nat → Nat → Nat} {s : Nat} : ∀ h, gc S s h < 4 ^ ct (un S) h
  | 0 => Nat.zero_lt_one
  | h + 1 => by
    have ih := gc_lt (S := S) (s := s) h
    rw [gc, ct, show un S h = Nat.beq (S 1 h) 4 from rfl]
    cases Nat.beq (S 1 h) 4 with
    | true =>
      show gc S s h + 4 ^ ct (un S) h * dg S s h < 4 ^ (ct (un S) h + 1)
      have h4 : dg S s h ≤ 3 := by unfold dg; omega
      have := Nat.mul_le_mul_left (4 ^ ct (un S) h) h4
      rw [Nat.pow_succ]
      omega
    | false => exact ih
theorem rm_gr {S : Nat → Nat → Nat} {s N : Nat} : ∀ h, h ≤ N → rm S (gr S s N 0) h = gr S s (N - h) h
  | 0, _ => rfl
  | h + 1, hh => by
    rw [rm, rm_gr h (by omega), show N - h = (N - (h + 1)) + 1 by omega, gr]
    cases Nat.beq (S 1 h) 4 with
    | true =>
      show (dg S s h + 4 * gr S s (N - (h + 1)) (h + 1)) / 4 = _
      have h4 : dg S s h ≤ 3 := by unfold dg; omega
      omega
    | false => rfl
theorem wd_gr {S : Nat → Nat → Nat} {s h : Nat} (hh : h < S 0 0) : wd S (gc S s (S 0 0)) h = gw S s h := by
  rw [gc_N]
  unfold wd gw
  rw [if_pos hh, rm_gr h (by omega), show S 0 0 - h = (S 0 0 - (h + 1)) + 1 by omega, gr]
  cases Nat.beq (S 1 h) 4 with
  | true =>
    show (dg S s h + 4 * gr S s (S 0 0 - (h + 1)) (h + 1)) % 4 = ns (sd S s h) / 65536 % 4
    have h4 : dg S s h ≤ 3 := by unfold dg; omega
    have e : dg S s h = ns (sd S s h) / 65536 % 4 := rfl
    omega
  | false => rfl
theorem ps_gr {S : Nat → Nat → Nat} {s v h : Nat} (hh : h < S 0 0) : ps S (wd S (gc S s (S 0 0))) v (h + 1) = ps S (gw S s) v (h + 1) := ps_congr _ (fun i hi => wd_gr (by omega))
theorem ns_lr {s : Nat} (hs : s < 2147483648) : sm_lr (lN 1103515245 * lN s + lN 12345) (lN 2147483648) = lN (ns s) := by
  rw [lN_mul, lN_add]
  exact pk_lRem (by omega) (by decide) (by decide)
theorem dg_lr {s : Nat} (hs : s < 2147483648) : (sm_lr (lN (ns s) / lN 65536) (lN 4)).toInt32 = nI (ns s / 65536 % 4) := by
  have := ns_lt s
  rw [pk_lDiv (by omega) (by decide) (by decide)]
  have e : sm_lr (lN (ns s / 65536)) (lN 4) = lN (ns s / 65536 % 4) := pk_lRem (by omega) (by decide) (by decide)
  rw [e, lN_i]
theorem lg_00 (a : Int64) : lg_cmp a a = nI 0 := by
  simp [lg_cmp]
  rfl
section GUSTL
variable {G : Nat → Nat → Int32} {L : Nat → Nat → Int64} {Q : sm_Q} {S : Nat → Nat → Nat} {n t x : Nat} {f : Nat → Int32}
theorem gus {dd s q : Nat} (h1 : 1 ≤ dd) (h40 : dd ≤ 40) (hs : s < 2147483648) (hq : q < 2) (h0 : 0 < S 0 0) : A_gusts S (nI dd) (nI s) (nI q) = nI (if q = 0 then hits S s dd else sdd S s dd) := by
  unfold A_gusts
  rw [if_t ⟨nI_le h1 (by omega), nI_le h40 (by decide), nI_le (Nat.zero_le s) (by omega), inb_n hq (by decide)⟩, if_f (by omega), zn_clI (by omega), zn_clI (by omega), zn_clI (by omega)]
theorem gus0 {dd s : Nat} (h1 : 1 ≤ dd) (h40 : dd ≤ 40) (hs : s < 2147483648) (h0 : 0 < S 0 0) : A_gusts S (nI dd) (nI s) (nI 0) = nI (hits S s dd) := gus h1 h40 hs (by decide) h0
theorem gus1 {dd s : Nat} (h1 : 1 ≤ dd) (h40 : dd ≤ 40) (hs : s < 2147483648) (h0 : 0 < S 0 0) : A_gusts S (nI dd) (nI s) (nI 1) = nI (sdd S s dd) := gus h1 h40 hs (by decide) h0
set_option maxRecDepth 100000 in
set_option maxHeartbeats 4000000 in
/-- a drawn day: its winds -/
theorem lw_G1 {dd s s' d hh : Nat} (hW : wD S G) (hR : dR S) (hs : s' < 2147483648)
    (hN : sm_Wk 20 143 Q (some (n, f)) 835 [some (.ref 9999), some (.ref 0), some (.ref 30), some (.ref 31), some (.ref 32), some (.ref 33), some (.ref 34), some (.ref 35), some (.int (nI (S 0 1))), some (.int (nI t)), some (.int (nI x)), none, none, none, some (.int (nI dd)), some (.int (nI s)), some (.long (lN (sd S s' (S 0 0)))), none, some (.int (nI hh)), some (.int (nI (S 0 2))), some (.int (nI d)), some (.int (nI (gc S s' (S 0 0)))), none, none, none, none, none] [] (hp G L)) : ∀ i, i ≤ S 0 0 → sm_Wk 20 143 Q (some (n, f)) 772 [some (.ref 9999), some (.ref 0), some (.ref 30), some (.ref 31), some (.ref 32), some (.ref 33), some (.ref 34), some (.ref 35), some (.int (nI (S 0 1))), some (.int (nI t)), some (.int (nI x)), none, none, none, some (.int (nI dd)), some (.int (nI s)), some (.long (lN (sd S s' i))), none, some (.int (nI hh)), some (.int (nI (S 0 2))), some (.int (nI d)), some (.int (nI (gc S s' i))), some (.int (nI (4 ^ ct (un S) i))), some (.int (nI i)), none, none, none] [] (hp G L) := by
  obtain ⟨w1, w2, w3, w4⟩ := hW
  obtain ⟨r1, r2, r3, r4⟩ := id hR
  have w1' : G 30 (nI 6).toNatClampNeg = nI (S 0 0) := w1
  refine up _ (fun i hi ih => ?_)
  have eb : i < S 0 0 → (nI 0 ≤ G 30 (nI i).toNatClampNeg ↔ S 1 i ≠ 4) := by
    intro hl
    rw [zn_clI (by omega), w3 i hl, wI_ge (r3 i hl)]
  have hsd := sd_lt (S := S) hs i
  refine sm_body [772, 835] 120 sm_k143 (fun CT K hC hK => ?_)
  repeat' first
    | (with_reducible refine And.intro ?_ ?_)
    | ((with_reducible intro h9); first | exact absurd h9 (by decide) | (replace h9 := nle w1' (by omega) (by omega) h9) | (replace h9 := yle w1' (by omega) (by omega) h9) | (rw [eb ‹_›] at h9) | skip)
    | (with_reducible exact zn_in (by omega) (by decide))
    | (with_reducible exact z01) | (with_reducible exact z11) | (with_reducible exact zb01 _)
    | (with_reducible exact zn_inb (by omega) (by decide))
    | (with_reducible exact zn_ina (by omega) (by decide))
    | (with_reducible exact zn_inc (by omega) (by decide))
    | (with_reducible exact zn_ind (by omega) (by decide))
    | (with_reducible exact zn_ine (by omega) (by decide))
    | ((conv => whnf); first | (with_reducible refine And.intro ?_ ?_) | ((with_reducible intro h9); first | exact absurd h9 (by decide) | (replace h9 := nle w1' (by omega) (by omega) h9) | (replace h9 := yle w1' (by omega) (by omega) h9) | (rw [eb ‹_›] at h9) | skip) | (with_reducible refine hK _ _ _ _ (sm_un ?_)))
  · obtain rfl : i = S 0 0 := by omega
    exact ⟨⟨sm_less hN ⟨rfl, rfl, rfl, rfl, rfl, rfl, rfl, rfl, rfl, rfl, rfl, rfl, rfl, rfl, rfl, rfl, rfl, rfl, trivial⟩⟩⟩
  · have e := ih ‹_›
    rw [sd, gc, ct, show un S i = false from beq_f h9, beq_f h9, bn_f rfl] at e
    simp only [nI_add]; exact ⟨⟨e⟩⟩
  · have hb : Nat.beq (S 1 i) 4 = true := beq_t (Decidable.not_not.mp h9)
    have e := ih ‹_›
    rw [sd, gc, ct, show un S i = true from hb, hb, bn_t rfl, Nat.pow_succ] at e
    simp only [ns_lr hsd, dg_lr hsd, pk_mul, nI_add]
    exact ⟨⟨e⟩⟩
set_option maxRecDepth 100000 in
set_option maxHeartbeats 4000000 in
/-- a drawn day: how many hours with more than half of the vanes -/
theorem lw_G2 {dd s s' d hh : Nat} (hW : wD S G) (hR : dR S) (hl : ld S (gc S s' (S 0 0)) G) (hh9 : hh < 1000)
    (hN : sm_Wk 20 143 Q (some (n, f)) 934 [some (.ref 9999), some (.ref 0), some (.ref 30), some (.ref 31), some (.ref 32), some (.ref 33), some (.ref 34), some (.ref 35), some (.int (nI (S 0 1))), some (.int (nI t)), some (.int (nI x)), none, none, none, some (.int (nI dd)), some (.int (nI s)), some (.long (lN (sd S s' (S 0 0)))), none, some (.int (nI (hh + ct (hitq S s') (S 0 0)))), some (.int (nI (S 0 2))), some (.int (nI d)), none, none, none, none, none, none] [] (hp G L)) : ∀ i, i ≤ S 0 0 → sm_Wk 20 143 Q (some (n, f)) 851 [some (.ref 9999), some (.ref 0), some (.ref 30), some (.ref 31), some (.ref 32), some (.ref 33), some (.ref 34), some (.ref 35), some (.int (nI (S 0 1))), some (.int (nI t)), some (.int (nI x)), none, none, none, some (.int (nI dd)), some (.int (nI s)), some (.long (lN (sd S s' (S 0 0)))), none, some (.int (nI (hh + ct (hitq S s') i))), some (.int (nI (S 0 2))), some (.int (nI d)), none, none, none, some (.int (nI i)), none, none] [] (hp G L) := by
  obtain ⟨w1, w2, w3, w4⟩ := hW
  obtain ⟨r1, r2, r3, r4⟩ := id hR
  have w1' : G 30 (nI 6).toNatClampNeg = nI (S 0 0) := w1
  refine up _ (fun i hi ih => ?_)
  have hcl := ct_le (P := hitq S s') i
  have inner : i < S 0 0 → ∀ v, v ≤ S 0 1 → sm_Wk 20 143 Q (some (n, f)) 866 [some (.ref 9999), some (.ref 0), some (.ref 30), some (.ref 31), some (.ref 32), some (.ref 33), some (.ref 34), some (.ref 35), some (.int (nI (S 0 1))), some (.int (nI t)), some (.int (nI x)), none, none, none, some (.int (nI dd)), some (.int (nI s)), some (.long (lN (sd S s' (S 0 0)))), none, some (.int (nI (hh + ct (hitq S s') i))), some (.int (nI (S 0 2))), some (.int (nI d)), none, none, none, some (.int (nI i)), some (.int (nI (ct (fun v => Nat.beq (ps S (gw S s') v (i + 1)) (gw S s' i)) v))), some (.int (nI v))] [] (hp G L) := by
    intro hil
    refine up _ (fun v hv ihv => ?_)
    have hcv := ct_le (P := fun v => Nat.beq (ps S (gw S s') v (i + 1)) (gw S s' i)) v
    have hg := gw_lt hR (s := s') hil
    have eb : v < S 0 1 → (G 33 (nI 6 * nI v + nI i).toNatClampNeg = G 32 (nI i).toNatClampNeg ↔ ps S (gw S s') v (i + 1) = gw S s' i) := by
      intro hvl
      have := ps_lt4 hR hvl (gc S s' (S 0 0)) (i + 1)
      rw [pk_mul, nI_add, zn_clI (by omega), zn_clI (by omega), hl.2 v hvl i hil, hl.1 i hil, wd_gr hil, ← ps_gr hil, nI_eq (by omega) (by omega)]
    refine sm_body [851, 866] 120 sm_k143 (fun CT K hC hK => ?_)
    repeat' first
      | (with_reducible refine And.intro ?_ ?_)
      | ((with_reducible intro h9); first | exact absurd h9 (by decide) | ((rw [eb ‹_›] at h9)) | ((replace h9 := zle (a := S 0 1) (by omega) (by omega) h9)) | ((replace h9 := znle (a := S 0 1) (by omega) (by omega) h9)) | ((rw [nI_add] at h9; replace h9 := zle (by omega) (by omega) h9)) | ((rw [nI_add] at h9; replace h9 := znle (by omega) (by omega) h9)) | skip)
      | (with_reducible exact zn_in (by omega) (by decide))
      | (with_reducible exact z01) | (with_reducible exact z11) | (with_reducible exact zb01 _)
      | (with_reducible exact zn_inb (by omega) (by decide))
      | (with_reducible exact zn_ina (by omega) (by decide))
      | (with_reducible exact zn_inc (by omega) (by decide))
      | (with_reducible exact zn_ind (by omega) (by decide))
      | (with_reducible exact zn_ine (by omega) (by decide))
      | ((conv => whnf); first | (with_reducible refine And.intro ?_ ?_) | ((with_reducible intro h9); first | exact absurd h9 (by decide) | ((rw [eb ‹_›] at h9)) | ((replace h9 := zle (a := S 0 1) (by omega) (by omega) h9)) | ((replace h9 := znle (a := S 0 1) (by omega) (by omega) h9)) | ((rw [nI_add] at h9; replace h9 := zle (by omega) (by omega) h9)) | ((rw [nI_add] at h9; replace h9 := znle (by omega) (by omega) h9)) | skip) | (with_reducible refine hK _ _ _ _ (sm_un ?_)))
    · obtain rfl : v = S 0 1 := by omega
      have e := ih hil
      have eh : hitq S s' i = false := decide_eq_false (by omega)
      rw [ct, bn_f eh] at e
      simp only [nI_add]; exact ⟨⟨sm_less e ⟨rfl, rfl, rfl, rfl, rfl, rfl, rfl, rfl, rfl, rfl, rfl, rfl, rfl, rfl, rfl, rfl, rfl, rfl, trivial⟩⟩⟩
    · obtain rfl : v = S 0 1 := by omega
      have e := ih hil
      have eh : hitq S s' i = true := decide_eq_true (by omega)
      rw [ct, bn_t eh, ← Nat.add_assoc] at e
      simp only [nI_add]; exact ⟨⟨sm_less e ⟨rfl, rfl, rfl, rfl, rfl, rfl, rfl, rfl, rfl, rfl, rfl, rfl, rfl, rfl, rfl, rfl, rfl, rfl, trivial⟩⟩⟩
    · have e := ihv ‹_›
      have eh : (fun v => Nat.beq (ps S (gw S s') v (i + 1)) (gw S s' i)) v = false := beq_f h9
      rw [ct, bn_f eh] at e
      simp only [nI_add]; exact ⟨⟨e⟩⟩
    · have e := ihv ‹_›
      have eh : (fun v => Nat.beq (ps S (gw S s') v (i + 1)) (gw S s' i)) v = true := beq_t h9
      rw [ct, bn_t eh] at e
      simp only [nI_add]; exact ⟨⟨e⟩⟩
  refine sm_body [866, 934] 120 sm_k143 (fun CT K hC hK => ?_)
  repeat' first
    | (with_reducible refine And.intro ?_ ?_)
    | ((with_reducible intro h9); first | exact absurd h9 (by decide) | (replace h9 := nle w1' (by omega) (by omega) h9) | (replace h9 := yle w1' (by omega) (by omega) h9) | skip)
    | (with_reducible exact zn_in (by omega) (by decide))
    | (with_reducible exact z01) | (with_reducible exact z11) | (with_reducible exact zb01 _)
    | (with_reducible exact zn_inb (by omega) (by decide))
    | (with_reducible exact zn_ina (by omega) (by decide))
    | (with_reducible exact zn_inc (by omega) (by decide))
    | (with_reducible exact zn_ind (by omega) (by decide))
    | (with_reducible exact zn_ine (by omega) (by decide))
    | ((conv => whnf); first | (with_reducible refine And.intro ?_ ?_) | ((with_reducible intro h9); first | exact absurd h9 (by decide) | (replace h9 := nle w1' (by omega) (by omega) h9) | (replace h9 := yle w1' (by omega) (by omega) h9) | skip) | (with_reducible refine hK _ _ _ _ (sm_un ?_)))
  · obtain rfl : i = S 0 0 := by omega
    exact ⟨⟨sm_less hN ⟨rfl, rfl, rfl, rfl, rfl, rfl, rfl, rfl, rfl, rfl, rfl, rfl, rfl, rfl, rfl, rfl, rfl, trivial⟩⟩⟩
  · exact ⟨⟨inner ‹_› 0 (Nat.zero_le _)⟩⟩
set_option maxRecDepth 100000 in
set_option maxHeartbeats 4000000 in
/-- all drawn days -/
theorem lw_G3 {dd s : Nat} (hI : LI S G) (h1 : 1 ≤ dd) (h40 : dd ≤ 40) (hs : s < 2147483648)
    (hN : ∀ G', eqx [31, 32, 33] G G' → G' 31 = G 31 → sm_Wk 20 143 Q (some (n, f)) 978 [some (.ref 9999), some (.ref 0), some (.ref 30), some (.ref 31), some (.ref 32), some (.ref 33), some (.ref 34), some (.ref 35), some (.int (nI (S 0 1))), some (.int (nI t)), some (.int (nI x)), none, none, none, none, none, none, none, none, none, none, none, none, none, none, none, none] [] (hp G' L)) : ∀ d, d ≤ dd → ∀ G1, eqx [31, 32, 33] G G1 → G1 31 = su (G 31) 30 (nI 0) → sm_Wk 20 143 Q (some (n, f)) 756 [some (.ref 9999), some (.ref 0), some (.ref 30), some (.ref 31), some (.ref 32), some (.ref 33), some (.ref 34), some (.ref 35), some (.int (nI (S 0 1))), some (.int (nI t)), some (.int (nI x)), none, none, none, some (.int (nI dd)), some (.int (nI s)), some (.long (lN (sdd S s d))), none, some (.int (nI (hits S s d))), some (.int (nI (S 0 2))), some (.int (nI d)), none, none, none, none, none, none] [] (hp G1 L) := by
  obtain ⟨hR, hIc, hW, ⟨s1, s2⟩, hpos⟩ := hI
  obtain ⟨hdR, hnR, -⟩ := id hR
  obtain ⟨r1, r2, r3, r4⟩ := id hdR
  refine up _ (fun d hd ih G1 hx h31 => ?_)
  have hW1 : wD S G1 := wD_x hx rfl hW
  have hI1 : Ic S G1 := Ic_x (eqx_sub rfl hx) hIc
  have hsd := sdd_lt (S := S) hs d
  have hhi := hits_le (S := S) (s := s) r1 d
  have hgc := gc_lt (S := S) (s := sdd S s d) (S 0 0)
  have hnc : gc S (sdd S s d) (S 0 0) < 2 ^ 31 := by
    have := nc_le hdR
    have e : nc S = 4 ^ ct (un S) (S 0 0) := rfl
    omega
  have hS0 : wS 0 (fun _ => 0) (fun _ => 0) (fun _ => 0) G1 := ⟨by rw [h31, su_eq], fun k hk => absurd hk (Nat.not_lt_zero _)⟩
  have next : d < dd → ∀ G2, eqx [31, 32, 33] G1 G2 → G2 31 = G1 31 → sm_Wk 20 143 Q (some (n, f)) 934 [some (.ref 9999), some (.ref 0), some (.ref 30), some (.ref 31), some (.ref 32), some (.ref 33), some (.ref 34), some (.ref 35), some (.int (nI (S 0 1))), some (.int (nI t)), some (.int (nI x)), none, none, none, some (.int (nI dd)), some (.int (nI s)), some (.long (lN (sdd S s (d + 1)))), none, some (.int (nI (hits S s (d + 1)))), some (.int (nI (S 0 2))), some (.int (nI d)), none, none, none, none, none, none] [] (hp G2 L) := by
    intro hl G2 hx2 e31
    refine sm_body [756] 120 sm_k143 (fun CT K hC hK => ?_)
    repeat' first
      | (with_reducible refine And.intro ?_ ?_)
      | ((with_reducible intro h9); first | exact absurd h9 (by decide) | skip)
      | (with_reducible exact zn_in (by omega) (by decide))
      | (with_reducible exact z01) | (with_reducible exact z11) | (with_reducible exact zb01 _)
      | (with_reducible exact zn_inb (by omega) (by decide))
      | (with_reducible exact zn_ina (by omega) (by decide))
      | (with_reducible exact zn_inc (by omega) (by decide))
      | (with_reducible exact zn_ind (by omega) (by decide))
      | (with_reducible exact zn_ine (by omega) (by decide))
      | ((conv => whnf); first | (with_reducible refine And.intro ?_ ?_) | ((with_reducible intro h9); first | exact absurd h9 (by decide) | skip) | (with_reducible refine hK _ _ _ _ (sm_un ?_)))
    simp only [nI_add]; exact ⟨⟨ih hl G2 (eqx_trans hx hx2) (by rw [e31]; exact h31)⟩⟩
  have mid : d < dd → sm_Wk 20 143 Q (some (n, f)) 835 [some (.ref 9999), some (.ref 0), some (.ref 30), some (.ref 31), some (.ref 32), some (.ref 33), some (.ref 34), some (.ref 35), some (.int (nI (S 0 1))), some (.int (nI t)), some (.int (nI x)), none, none, none, some (.int (nI dd)), some (.int (nI s)), some (.long (lN (sd S (sdd S s d) (S 0 0)))), none, some (.int (nI (hits S s d))), some (.int (nI (S 0 2))), some (.int (nI d)), some (.int (nI (gc S (sdd S s d) (S 0 0)))), none, none, none, none, none] [] (hp G1 L) := by
    intro hl
    refine sm_body [851] 120 sm_k143 (fun CT K hC hK => ?_)
    repeat' first
      | (with_reducible refine And.intro ?_ ?_)
      | ((with_reducible intro h9); first | exact absurd h9 (by decide) | skip)
      | (with_reducible exact zn_in (by omega) (by decide))
      | (with_reducible exact z01) | (with_reducible exact z11) | (with_reducible exact zb01 _)
      | (with_reducible exact zn_inb (by omega) (by decide))
      | (with_reducible exact zn_ina (by omega) (by decide))
      | (with_reducible exact zn_inc (by omega) (by decide))
      | (with_reducible exact zn_ind (by omega) (by decide))
      | (with_reducible exact zn_ine (by omega) (by decide))
      | ((conv => whnf); first | (with_reducible refine And.intro ?_ ?_) | ((with_reducible intro h9); first | exact absurd h9 (by decide) | skip) | (with_reducible refine hK _ _ _ _ (sm_un ?_)) | (with_reducible refine l_fits (hC.mono (by omega)) hW1 hdR (n := 0) (a := fun _ => 0) (b := fun _ => 0) (d := fun _ => 0) (by decide) (fun k hk => absurd hk (Nat.not_lt_zero _)) hS0 hnc (fun G2 hx2 hl2 => ?_)))
    have e := lw_G2 (n := n) (t := t) (x := x) (f := f) (L := L) (Q := Q) (dd := dd) (s := s) (s' := sdd S s d) (d := d) (hh := hits S s d) (wD_x hx2 rfl hW1) hdR hl2 (by omega) (next hl G2 (eqx_sub rfl hx2) (hx2 31 rfl)) 0 (Nat.zero_le _)
    exact ⟨⟨sm_less e ⟨rfl, rfl, rfl, rfl, rfl, rfl, rfl, rfl, rfl, rfl, rfl, rfl, rfl, rfl, rfl, rfl, rfl, rfl, trivial⟩⟩⟩
  have tail : d = dd → ∀ G2, eqx [31, 32, 33] G G2 → G2 31 = G 31 → sm_Wk 20 143 Q (some (n, f)) 946 [some (.ref 9999), some (.ref 0), some (.ref 30), some (.ref 31), some (.ref 32), some (.ref 33), some (.ref 34), some (.ref 35), some (.int (nI (S 0 1))), some (.int (nI t)), some (.int (nI x)), none, none, none, some (.int (nI dd)), some (.int (nI s)), some (.long (lN (sdd S s d))), none, some (.int (nI (hits S s d))), some (.int (nI (S 0 2))), some (.int (nI d)), none, none, none, none, none, none] [] (hp G2 L) := by
    intro hdd G2 hx2 e31
    subst hdd
    have hI2 : Ic S G2 := Ic_x (eqx_sub rfl hx2) hIc
    refine sm_body [978] 120 sm_k143 (fun CT K hC hK => ?_)
    repeat' first
      | (with_reducible refine And.intro ?_ ?_)
      | ((with_reducible intro h9); first | exact absurd h9 (by decide) | ((rw [gus0 h1 h40 hs hpos] at h9; first | exact absurd rfl h9 | skip)) | ((rw [gus1 h1 h40 hs hpos, nI_l (by omega), lg_00] at h9; first | exact absurd rfl h9 | skip)) | skip)
      | (with_reducible exact zn_in (by omega) (by decide))
      | (with_reducible exact z01) | (with_reducible exact z11) | (with_reducible exact zb01 _)
      | (with_reducible exact zn_inb (by omega) (by decide))
      | (with_reducible exact zn_ina (by omega) (by decide))
      | (with_reducible exact zn_inc (by omega) (by decide))
      | (with_reducible exact zn_ind (by omega) (by decide))
      | (with_reducible exact zn_ine (by omega) (by decide))
      | ((conv => whnf); first | (with_reducible refine And.intro ?_ ?_) | ((with_reducible intro h9); first | exact absurd h9 (by decide) | ((rw [gus0 h1 h40 hs hpos] at h9; first | exact absurd rfl h9 | skip)) | ((rw [gus1 h1 h40 hs hpos, nI_l (by omega), lg_00] at h9; first | exact absurd rfl h9 | skip)) | skip) | (with_reducible refine hK _ _ _ _ (sm_un ?_)) | (refine f_gusts (hC.mono (by omega)) hR hI2 ?_))
    exact ⟨⟨sm_less (hN G2 hx2 e31) ⟨rfl, rfl, rfl, rfl, rfl, rfl, rfl, rfl, rfl, rfl, rfl, trivial⟩⟩⟩
  refine sm_body [772, 946] 120 sm_k143 (fun CT K hC hK => ?_)
  repeat' first
    | (with_reducible refine And.intro ?_ ?_)
    | ((with_reducible intro h9); first | exact absurd h9 (by decide) | ((replace h9 := zle (by omega) (by omega) h9)) | ((replace h9 := znle (by omega) (by omega) h9)) | skip)
    | (with_reducible exact zn_in (by omega) (by decide))
    | (with_reducible exact z01) | (with_reducible exact z11) | (with_reducible exact zb01 _)
    | (with_reducible exact zn_inb (by omega) (by decide))
    | (with_reducible exact zn_ina (by omega) (by decide))
    | (with_reducible exact zn_inc (by omega) (by decide))
    | (with_reducible exact zn_ind (by omega) (by decide))
    | (with_reducible exact zn_ine (by omega) (by decide))
    | ((conv => whnf); first | (with_reducible refine And.intro ?_ ?_) | ((with_reducible intro h9); first | exact absurd h9 (by decide) | ((replace h9 := zle (by omega) (by omega) h9)) | ((replace h9 := znle (by omega) (by omega) h9)) | skip) | (with_reducible refine hK _ _ _ _ (sm_un ?_)))
  · have hdd : d = dd := by omega
    have e31 : su G1 31 (su (G1 31) 30 (nI (S 0 2))) 31 = G 31 := by
      rw [su_eq, h31, su_su, ← s1, su_self]
    simp only [c30, hp_0, hp_1, hp_2, hp_3, hp_4, hp_5, hp_6, hp_7, hp_8, hp_9, hp_10, hp_11, hp_12, hp_13, hp_14, hp_15, hp_16, hp_17, hp_18, hp_19, hp_20, hp_22, hp_23, hp_24, hp_25, hp_26, hp_27, hp_28, hp_29, hp_30, hp_31, hp_32, hp_33, hp_34, hp_35, hf0_5, hf0_6, hf0_7, hf1_1, hf3_0, hf3_2, hf3_6, hf10_0, hf10_2, hf10_6, hf17_3, hf17_4, hf20_3, hf20_4, upd_su, updL_su]
    exact ⟨⟨tail hdd _ (eqx_su 31 _ rfl hx) e31⟩⟩
  · have hl : d < dd := by assumption
    have e := lw_G1 (n := n) (t := t) (x := x) (f := f) (L := L) (Q := Q) (dd := dd) (s := s) (s' := sdd S s d) (d := d) (hh := hits S s d) hW1 hdR hsd (mid hl) 0 (Nat.zero_le _)
    exact ⟨⟨e⟩⟩
set_option maxRecDepth 100000 in
set_option maxHeartbeats 4000000 in
/-- every sixth act: gusts -/
theorem lw_G (hI : LI S G) (ht : t < 24) (hx31 : x < 2 ^ 31) (hn : n ≤ 260)
    (hN : ∀ G', eqx [31, 32, 33] G G' → G' 31 = G 31 → sm_Wk 20 143 Q (some (n, f)) 978 [some (.ref 9999), some (.ref 0), some (.ref 30), some (.ref 31), some (.ref 32), some (.ref 33), some (.ref 34), some (.ref 35), some (.int (nI (S 0 1))), some (.int (nI t)), some (.int (nI x)), none, none, none, none, none, none, none, none, none, none, none, none, none, none, none, none] [] (hp G' L)) : sm_Wk 20 143 Q (some (n, f)) 698 [some (.ref 9999), some (.ref 0), some (.ref 30), some (.ref 31), some (.ref 32), some (.ref 33), some (.ref 34), some (.ref 35), some (.int (nI (S 0 1))), some (.int (nI t)), some (.int (nI x)), none, none, none, none, none, none, none, none, none, none, none, none, none, none, none, none] [] (hp G L) := by
  have hI' := hI
  obtain ⟨hR, hIc, hW, ⟨s1, s2⟩, hpos⟩ := hI'
  have e1 : nI 1 + sm_ir (nI x / nI 512) (nI 40) = nI (1 + x / 512 % 40) := by rw [pk_div hx31 (by decide) (by decide), zn_ir (by omega) (by decide) (by decide), nI_add]
  have e2 : nI 30 + nI t / nI 6 = nI (30 + t / 6) := by rw [pk_div (by omega) (by decide) (by decide), nI_add]
  have s1' : G 31 (nI 30).toNatClampNeg = nI (S 0 2) := s1
  have h978 : sm_Wk 20 143 Q (some (n, f)) 978 [some (.ref 9999), some (.ref 0), some (.ref 30), some (.ref 31), some (.ref 32), some (.ref 33), some (.ref 34), some (.ref 35), some (.int (nI (S 0 1))), some (.int (nI t)), some (.int (nI x)), none, none, none, none, none, none, none, none, none, none, none, none, none, none, none, none] [] (hp G L) := hN G eqx_rfl rfl
  have rest : ∀ s, s < 2 ^ 31 → sm_Wk 20 143 Q (some (n, f)) 732 [some (.ref 9999), some (.ref 0), some (.ref 30), some (.ref 31), some (.ref 32), some (.ref 33), some (.ref 34), some (.ref 35), some (.int (nI (S 0 1))), some (.int (nI t)), some (.int (nI x)), none, none, none, some (.int (nI (1 + x / 512 % 40))), none, none, none, none, none, none, none, none, none, none, none, none] [.int (nI s)] (hp G L) := by
    intro s hs
    refine sm_body [756] 120 sm_k143 (fun CT K hC hK => ?_)
    repeat' first
      | (with_reducible refine And.intro ?_ ?_)
      | ((with_reducible intro h9); first | exact absurd h9 (by decide) | skip)
      | (with_reducible exact zn_in (by omega) (by decide))
      | (with_reducible exact z01) | (with_reducible exact z11) | (with_reducible exact zb01 _)
      | (with_reducible exact zn_inb (by omega) (by decide))
      | (with_reducible exact zn_ina (by omega) (by decide))
      | (with_reducible exact zn_inc (by omega) (by decide))
      | (with_reducible exact zn_ind (by omega) (by decide))
      | (with_reducible exact zn_ine (by omega) (by decide))
      | ((conv => whnf); first | (with_reducible refine And.intro ?_ ?_) | ((with_reducible intro h9); first | exact absurd h9 (by decide) | skip) | (with_reducible refine hK _ _ _ _ (sm_un ?_)))
    simp only [s1, s1', c30, nI_l hs, hp_0, hp_1, hp_2, hp_3, hp_4, hp_5, hp_6, hp_7, hp_8, hp_9, hp_10, hp_11, hp_12, hp_13, hp_14, hp_15, hp_16, hp_17, hp_18, hp_19, hp_20, hp_22, hp_23, hp_24, hp_25, hp_26, hp_27, hp_28, hp_29, hp_30, hp_31, hp_32, hp_33, hp_34, hp_35, hf0_5, hf0_6, hf0_7, hf1_1, hf3_0, hf3_2, hf3_6, hf10_0, hf10_2, hf10_6, hf17_3, hf17_4, hf20_3, hf20_4, upd_su, updL_su]
    exact ⟨⟨lw_G3 hI (by omega) (by omega) hs hN 0 (Nat.zero_le _) _ (eqx_su 31 _ rfl eqx_rfl) (by rw [su_eq])⟩⟩
  refine sm_body [729, 978] 120 sm_k143 (fun CT K hC hK => ?_)
  repeat' first
    | (with_reducible refine And.intro ?_ ?_)
    | ((with_reducible intro h9); first | exact absurd h9 (by decide) | skip)
    | (with_reducible exact zn_in (by omega) (by decide))
    | (with_reducible exact z01) | (with_reducible exact z11) | (with_reducible exact zb01 _)
    | (with_reducible exact zn_inb (by omega) (by decide))
    | (with_reducible exact zn_ina (by omega) (by decide))
    | (with_reducible exact zn_inc (by omega) (by decide))
    | (with_reducible exact zn_ind (by omega) (by decide))
    | (with_reducible exact zn_ine (by omega) (by decide))
    | ((conv => whnf); first | (with_reducible refine And.intro ?_ ?_) | ((with_reducible intro h9); first | exact absurd h9 (by decide) | skip) | (with_reducible refine hK _ _ _ _ (sm_un ?_)))
  · exact ⟨⟨h978⟩⟩
  · simp only [e1, e2]
    exact ⟨⟨sm_cellk (k := 30 + t / 6) (idx := 64) (z := 283) (by decide) hn (by omega) (by decide +kernel) rfl rest⟩⟩
end GUSTL
