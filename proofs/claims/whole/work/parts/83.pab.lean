-- the whole picture
abbrev Ab : Type := (Nat) × (Nat → List Hlt) × (Nat) × (Sto) × (Lts) × (Bxs) × (List Nat)
abbrev Ab.now (x : Ab) : Nat := x.1
abbrev Ab.T (x : Ab) : Nat → List Hlt := x.2.1
abbrev Ab.pubs (x : Ab) : Nat := x.2.2.1
abbrev Ab.S (x : Ab) : Sto := x.2.2.2.1
abbrev Ab.L (x : Ab) : Lts := x.2.2.2.2.1
abbrev Ab.B (x : Ab) : Bxs := x.2.2.2.2.2.1
abbrev Ab.txt (x : Ab) : List Nat := x.2.2.2.2.2.2
abbrev mkAb (now : Nat) (T : Nat → List Hlt) (pubs : Nat) (S : Sto) (L : Lts) (B : Bxs) (txt : List Nat) : Ab := (now, T, pubs, S, L, B, txt)
def RX (s : Mem) (A : Ab) : Prop := (s.1 0 0 0 = nI A.now) ∧ (s.1 0 0 3 = nI A.pubs) ∧ (s.1 0 0 9 = nI A.txt.length) ∧ (∀ t, t < 8 → ∃ L, TabC s t L ∧ SrtT L ∧ L.Perm (A.T t)) ∧ (RS s A.L.sz A.S) ∧ (RL s A.now A.L) ∧ (RB s A.L.sz A.B) ∧ (∀ j, j < 32 → bytI (s.2 21 0 (j / 8)) (j % 8) = nI (A.txt.getD j 0))
theorem RX.clk {s : Mem} {A : Ab} (h : RX s A) : s.1 0 0 0 = nI A.now := h.1
theorem RX.pub {s : Mem} {A : Ab} (h : RX s A) : s.1 0 0 3 = nI A.pubs := h.2.1
theorem RX.tln {s : Mem} {A : Ab} (h : RX s A) : s.1 0 0 9 = nI A.txt.length := h.2.2.1
theorem RX.tab {s : Mem} {A : Ab} (h : RX s A) : ∀ t, t < 8 → ∃ L, TabC s t L ∧ SrtT L ∧ L.Perm (A.T t) := h.2.2.2.1
theorem RX.sto {s : Mem} {A : Ab} (h : RX s A) : RS s A.L.sz A.S := h.2.2.2.2.1
theorem RX.ltr {s : Mem} {A : Ab} (h : RX s A) : RL s A.now A.L := h.2.2.2.2.2.1
theorem RX.box {s : Mem} {A : Ab} (h : RX s A) : RB s A.L.sz A.B := h.2.2.2.2.2.2.1
theorem RX.txb {s : Mem} {A : Ab} (h : RX s A) : ∀ j, j < 32 → bytI (s.2 21 0 (j / 8)) (j % 8) = nI (A.txt.getD j 0) := h.2.2.2.2.2.2.2
def RM (s : Mem) (A : Ab) : Prop := (s.1 30 0 5 = nI A.now) ∧ (s.1 30 0 4 = nI A.pubs) ∧ (s.1 30 0 30 = nI A.txt.length) ∧ (∀ t, t < 8 → TabM s t (A.T t)) ∧ (QS s A.L.sz A.S) ∧ (QL s A.L) ∧ (QB s A.L.sz A.B) ∧ (∀ j b, A.txt[j]? = some b → s.1 57 0 j = nI b)
theorem RM.clk {s : Mem} {A : Ab} (h : RM s A) : s.1 30 0 5 = nI A.now := h.1
theorem RM.pub {s : Mem} {A : Ab} (h : RM s A) : s.1 30 0 4 = nI A.pubs := h.2.1
theorem RM.tln {s : Mem} {A : Ab} (h : RM s A) : s.1 30 0 30 = nI A.txt.length := h.2.2.1
theorem RM.tab {s : Mem} {A : Ab} (h : RM s A) : ∀ t, t < 8 → TabM s t (A.T t) := h.2.2.2.1
theorem RM.sto {s : Mem} {A : Ab} (h : RM s A) : QS s A.L.sz A.S := h.2.2.2.2.1
theorem RM.ltr {s : Mem} {A : Ab} (h : RM s A) : QL s A.L := h.2.2.2.2.2.1
theorem RM.box {s : Mem} {A : Ab} (h : RM s A) : QB s A.L.sz A.B := h.2.2.2.2.2.2.1
theorem RM.txb {s : Mem} {A : Ab} (h : RM s A) : ∀ j b, A.txt[j]? = some b → s.1 57 0 j = nI b := h.2.2.2.2.2.2.2
def FrC (s s' : Mem) : Prop := ∀ F, 28 ≤ F → s'.1 F = s.1 F ∧ s'.2 F = s.2 F
def FrN (s s' : Mem) : Prop := ∀ F, (F < 28 ∨ 70 ≤ F) → s'.1 F = s.1 F ∧ s'.2 F = s.2 F
theorem FrC.rf {s : Mem} : FrC s s := fun _ _ => ⟨rfl, rfl⟩
theorem FrC.tr {a b c : Mem} (h : FrC a b) (g : FrC b c) : FrC a c := fun F hF => ⟨(g F hF).1.trans (h F hF).1, (g F hF).2.trans (h F hF).2⟩
theorem FrN.rf {s : Mem} : FrN s s := fun _ _ => ⟨rfl, rfl⟩
theorem FrN.tr {a b c : Mem} (h : FrN a b) (g : FrN b c) : FrN a c := fun F hF => ⟨(g F hF).1.trans (h F hF).1, (g F hF).2.trans (h F hF).2⟩
theorem FrC.wI {s : Mem} {F i k : Nat} {v : Int32} (h : F < 28) : FrC s (mm_wI s F i k v) := fun F' hF => ⟨wI_ne (by omega), rfl⟩
theorem FrC.wJ {s : Mem} {F i k : Nat} {v : Int64} (h : F < 28) : FrC s (mm_wJ s F i k v) := fun F' hF => ⟨rfl, wJ_ne (by omega)⟩
theorem FrN.wI {s : Mem} {F i k : Nat} {v : Int32} (h : 28 ≤ F ∧ F < 70) : FrN s (mm_wI s F i k v) := fun F' hF => ⟨wI_ne (by omega), rfl⟩
theorem FrC.ls {a b : Mem} (h : FrL a b) : FrC a b := fun F hF => h F (by omega)
theorem FrC.ss {a b : Mem} (h : FrS a b) : FrC a b := fun F hF => h F (by omega)
theorem FrC.rs {a b : Mem} {i : Nat} (h : FrR i a b) : FrC a b := fun F hF => ⟨h.1 F (by omega), by rw [h.2.2]⟩
theorem FrC.ts {a b : Mem} {t : Nat} (h : FrT t a b) : FrC a b := fun F hF => ⟨h.1 F (by omega), by rw [h.2.2]⟩
theorem FrN.ks {a b : Mem} (h : FrK a b) : FrN a b := fun F hF => h F (by omega)
theorem FrN.qs {a b : Mem} (h : FrQ a b) : FrN a b := fun F hF => h F (by omega)
theorem FrN.as_ {a b : Mem} (h : FrA a b) : FrN a b := fun F hF => h F (by omega)
theorem FrN.ds {a b : Mem} (h : FrD a b) : FrN a b := fun F hF => h F (by omega)
theorem RM.fr {s s' : Mem} {A : Ab} (h : RM s A) (f : FrC s s') : RM s' A :=
  ⟨by rw [(f 30 (by decide)).1]; exact h.clk, by rw [(f 30 (by decide)).1]; exact h.pub, by rw [(f 30 (by decide)).1]; exact h.tln,
    fun t ht => ⟨by rw [(f 34 (by decide)).1]; exact (h.tab t ht).cnt, by rw [(f 31 (by decide)).1, (f 32 (by decide)).1, (f 33 (by decide)).1]; exact (h.tab t ht).row⟩,
    h.sto.fr (f 35 (by decide)).1 (f 46 (by decide)).1 (f 47 (by decide)).1 (f 48 (by decide)).1 (f 49 (by decide)).1 (f 50 (by decide)).1 (f 51 (by decide)).1 (f 52 (by decide)).1,
    ⟨by rw [(f 30 (by decide)).1]; exact h.ltr.n, by rw [(f 36 (by decide)).1]; exact h.ltr.sz, by rw [(f 37 (by decide)).1]; exact h.ltr.srt, by rw [(f 38 (by decide)).1]; exact h.ltr.org, by rw [(f 39 (by decide)).1]; exact h.ltr.gl, by rw [(f 40 (by decide)).1]; exact h.ltr.ad, by rw [(f 41 (by decide)).1]; exact h.ltr.ps, by rw [(f 42 (by decide)).1]; exact h.ltr.sm, by rw [(f 43 (by decide)).1]; exact h.ltr.pr, by rw [(f 44 (by decide)).1]; exact h.ltr.ex⟩,
    ⟨by rw [(f 45 (by decide)).1]; exact h.box.dlv, by rw [(f 53 (by decide)).1]; exact h.box.quo, by rw [(f 54 (by decide)).1]; exact h.box.cnt, by rw [(f 55 (by decide)).1]; exact h.box.lie, by rw [(f 56 (by decide)).1]; exact h.box.grp⟩,
    by rw [(f 57 (by decide)).1]; exact h.txb⟩
theorem RX.fr {s s' : Mem} {A : Ab} (h : RX s A) (f : FrN s s') : RX s' A :=
  ⟨by rw [(f 0 (by decide)).1]; exact h.clk, by rw [(f 0 (by decide)).1]; exact h.pub, by rw [(f 0 (by decide)).1]; exact h.tln,
    fun t ht => (h.tab t ht).elim fun L hL => ⟨L, hL.1.fr (f 1 (by decide)).1 (f 2 (by decide)).1 (f 3 (by decide)).1 (f 4 (by decide)).1, hL.2⟩,
    h.sto.fr (f 7 (by decide)).1 (f 8 (by decide)).1 (f 9 (by decide)).1 (f 10 (by decide)).2 (f 11 (by decide)).1,
    h.ltr.fr (f 0 (by decide)).1 (f 19 (by decide)).1, h.box.fr (f 15 (by decide)).1 (f 16 (by decide)).1 (f 17 (by decide)).1 (f 20 (by decide)).2,
    by rw [(f 21 (by decide)).2]; exact h.txb⟩
