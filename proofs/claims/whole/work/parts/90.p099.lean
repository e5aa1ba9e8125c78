-- post of the class
def oLet (L : Lts) (i g a q now N : Nat) (sm pr : Int32) : Lts := mkLts (L.n + 1) (u1 L.sz L.n N) (u1 L.srt L.n q) (u1 L.org L.n i) (u1 L.gl L.n g) (u1 L.ad L.n a) (u1 L.ps L.n now) (u1 L.sm L.n sm) (u1 L.pr L.n pr) L.ex
def txF (A : Ab) (j : Nat) : Nat := A.txt.getD j 0
def pstL (A : Ab) (i g a q : Nat) : Lts := oLet A.L i g a q A.now A.txt.length (sumF (txF A) A.txt.length) (arI (cmK (A.T (A.S.held i)) i A.now g))
def oPst (A : Ab) (i g a q : Nat) : Ab := mkAb A.now A.T A.pubs (oPost A.S i A.L.n (pc A.txt.length) (txF A)) (pstL A i g a q) A.B []
theorem at_last {α : Type} {f : Nat → α} {n l : Nat} {v : α} {P : Nat → α → Prop} (h1 : P n v) (h2 : ∀ l, l < n → P l (f l)) (hl : l < n + 1) : P l (u1 f n v l) := by
  by_cases e : l = n
  · rw [e, u1_at]; exact h1
  · rw [u1_ne e]; exact h2 l (by omega)
section
variable {s : Mem} {A : Ab} {c : Nat} {x1 x2 x3 x4 : Int32}
theorem post_WK (hW : WF A c) {i g a q : Nat} (hi : i < 8) (hg : g < 8) (ha : a < 5) (hq : q < 3) (hn : A.L.n < 16) (ht : 1 ≤ A.txt.length) (hr : cN (A.S.cp i) 64 + pc A.txt.length ≤ capa i) : WF (oPst A i g a q) c := by
  have h32 := hW.t32
  have wl := hW.wk.wl
  have ws := hW.ws
  have h4 : pc A.txt.length ≤ 4 := by unfold pc; omega
  refine ⟨hW.now, hW.pub, hW.tab, hW.hel, ⟨⟨hn, fun l hl => at_last (P := fun _ v => 1 ≤ v) ht wl.s1 hl, fun l => ?_, fun l hl => at_last (P := fun _ v => v < 3) hq wl.srt hl, fun l hl => at_last (P := fun _ v => v < 8) hi wl.org hl, fun l hl => at_last (P := fun _ v => v < 8) hg wl.gl hl, fun l hl => at_last (P := fun _ v => v < 5) ha wl.ad hl⟩, ⟨hW.wk.wb.len, fun b x hx => ⟨Nat.lt_succ_of_lt (hW.wk.wb.mem b x hx).1, (hW.wk.wb.mem b x hx).2⟩, hW.wk.wb.q200⟩, fun l hl => ?_, fun l hl => Nat.lt_succ_of_lt (hW.wk.dln l hl)⟩, ?_, fun l hl => at_last (P := fun _ v => v ≤ A.now) (Nat.le_refl _) hW.ps hl, Nat.zero_le _⟩
  · show u1 A.L.sz A.L.n A.txt.length l ≤ 32
    by_cases e : l = A.L.n
    · rw [e, u1_at]; exact h32
    · rw [u1_ne e]; exact wl.s32 l
  · have h1 := hW.wk.dln l hl
    show A.S.kn (u1 A.L.gl A.L.n g l) l ≠ 0
    rw [u1_ne (by omega)]; exact hW.wk.dlk l hl
  · have hcpn : ∀ i k, A.L.n ≤ k / 4 → A.S.cp i k = false := by
      intro i k hk
      cases h : A.S.cp i k with
      | false => rfl
      | true => have := (ws.cpn i k h).1; omega
    have hcnt : ∀ p, p ≤ 4 → cN ((oPost A.S i A.L.n p (txF A)).cp i) 64 = cN (A.S.cp i) 64 + p := by
      intro p
      induction p with
      | zero => intro _; rw [oPost_0]; rfl
      | succ p ih =>
        intro hp
        have : (oPost A.S i A.L.n (p + 1) (txF A)).cp i = u1 ((oPost A.S i A.L.n p (txF A)).cp i) (4 * A.L.n + p) true := by
          rw [← u2_row]
          show (fun i' k => if i' = i ∧ 4 * A.L.n ≤ k ∧ k < 4 * A.L.n + (p + 1) then true else A.S.cp i' k) i = _
          rw [rng_up]; rfl
        rw [this, cN_up (by omega) (by show (if _ then _ else _) = _; rw [if_neg (by omega)]; exact hcpn _ _ (by omega)), ih (by omega)]; omega
    refine ⟨fun i' hi' => ?_, fun i' k hk => ?_, fun i' k hk => ?_, fun i' k hk => ?_, fun i' k hk => ?_, ws.k2, fun i' l hl => ws.knn i' l (by have : A.L.n + 1 ≤ l := hl; omega), fun i' k hk => ?_, fun i' k hk => ?_, fun i' k => ?_, fun i' k => ?_⟩
    · by_cases e : i' = i
      · rw [e]; exact Nat.le_trans (Nat.le_of_eq (hcnt _ h4)) hr
      · refine Nat.le_trans (Nat.le_of_eq (cN_congr fun k _ => ?_)) (ws.cap i' hi')
        show (if _ then _ else _) = _
        rw [if_neg (fun h => e h.1)]
    · have hk' : (if i' = i ∧ 4 * A.L.n ≤ k ∧ k < 4 * A.L.n + pc A.txt.length then true else A.S.cp i' k) = true := hk
      show k / 4 < A.L.n + 1 ∧ k % 4 < pc (u1 A.L.sz A.L.n A.txt.length (k / 4))
      by_cases e : i' = i ∧ 4 * A.L.n ≤ k ∧ k < 4 * A.L.n + pc A.txt.length
      · have : k / 4 = A.L.n := by omega
        rw [this, u1_at]; omega
      · rw [if_neg e] at hk'
        have := ws.cpn i' k hk'
        rw [u1_ne (by omega)]; omega
    · have hk' : (if i' = i ∧ 4 * A.L.n ≤ k ∧ k < 4 * A.L.n + pc A.txt.length then true else A.S.cp i' k) = true := hk
      show (if i' = i ∧ 4 * A.L.n ≤ k ∧ k < 4 * A.L.n + pc A.txt.length then 0 else A.S.nw i' k) = (if i' = i ∧ 4 * A.L.n ≤ k ∧ k < 4 * A.L.n + pc A.txt.length then 0 else A.S.hp i' k)
      by_cases e : i' = i ∧ 4 * A.L.n ≤ k ∧ k < 4 * A.L.n + pc A.txt.length
      · rw [if_pos e, if_pos e]
      · rw [if_neg e] at hk' ⊢; rw [if_neg e]; exact ws.nhp i' k hk'
    · have hk' : (if i' = i ∧ 4 * A.L.n ≤ k ∧ k < 4 * A.L.n + pc A.txt.length then true else A.S.cp i' k) = true := hk
      show (if i' = i ∧ 4 * A.L.n ≤ k ∧ k < 4 * A.L.n + pc A.txt.length then 0 else A.S.hp i' k) % 2 = _
      by_cases e : i' = i ∧ 4 * A.L.n ≤ k ∧ k < 4 * A.L.n + pc A.txt.length
      · rw [if_pos e, if_pos (by omega)]
      · rw [if_neg e] at hk' ⊢; exact ws.par i' k hk'
    · show (if i' = i ∧ 4 * A.L.n ≤ k ∧ k < 4 * A.L.n + pc A.txt.length then true else A.S.cp i' k) = false
      by_cases e : i' = i ∧ 4 * A.L.n ≤ k ∧ k < 4 * A.L.n + pc A.txt.length
      · exact absurd (ws.knn i' (k / 4) (by omega)) hk
      · rw [if_neg e]; exact ws.kn0 i' k hk
    · have hk' : A.L.n + 1 ≤ k / 4 := hk
      show (if i' = i ∧ 4 * A.L.n ≤ k ∧ k < 4 * A.L.n + pc A.txt.length then 0 else A.S.nw i' k) = 0
      rw [if_neg (by omega)]; exact ws.nwn i' k (by omega)
    · have hk' : (if i' = i ∧ 4 * A.L.n ≤ k ∧ k < 4 * A.L.n + pc A.txt.length then true else A.S.vb i' k) = true := hk
      show k / 4 < A.L.n + 1
      by_cases e : i' = i ∧ 4 * A.L.n ≤ k ∧ k < 4 * A.L.n + pc A.txt.length
      · omega
      · rw [if_neg e] at hk'; have := ws.vbn i' k hk'; omega
    · show (if i' = i ∧ 4 * A.L.n ≤ k ∧ k < 4 * A.L.n + pc A.txt.length then 0 else A.S.hp i' k) ≤ _
      split
      · omega
      · exact ws.hb i' k
    · show (if i' = i ∧ 4 * A.L.n ≤ k ∧ k < 4 * A.L.n + pc A.txt.length then 0 else A.S.nw i' k) ≤ _
      split
      · omega
      · exact ws.nb i' k
end
