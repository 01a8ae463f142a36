/-! ===== the pair: writers ===== -/
theorem sp_w {S : Nat → Int32} {j : Nat} {L : List (Nat × Int32)} (h : ∀ q ∈ L, j ≠ q.1) : L.foldl (fun f q => upd f q.1 q.2) S j = S j := by
  induction L generalizing S with
  | nil => rfl
  | cons q L ih =>
    show L.foldl _ (upd S q.1 q.2) j = S j
    rw [ih (fun r hr => h r (List.mem_cons_of_mem _ hr)), upd_n (h q List.mem_cons_self)]
theorem s_pause (g : GG) (h : AH) (B : Nat) (H : INV h B) (k : Int32) (t : Int32) (z : Int32) (v : Int32) : SIMI g h B mX11_pause mX12_pause [.int k, .int t, .int z, .int v] := by
  obtain ⟨hL, hb, ty1, ty2, ⟨N, hs⟩, hi, htr, hd⟩ := id H
  have hX := hs.xn hL
  have G := hs.2.1
  have eS : ∀ j, j = 2 ∨ (208 ≤ j ∧ j < 918) → (spPause (hI h (B + 52)) N.1 k t z v).2 j = hI h (B + 52) j := fun j hj => by
    have n8 := G.1.2
    unfold spPause
    split
    · rfl
    · split
      · rfl
      · split
        · rfl
        · show upd (upd (upd (upd (upd (upd (upd (hI h (B + 52)) (130 + N.1) k) (138 + N.1) t) (146 + N.1) z) (154 + N.1) v) (162 + N.1) 10) (170 + N.1) 0) 0 _ j = _
          rw [upd_n (by omega), upd_n (by omega), upd_n (by omega), upd_n (by omega), upd_n (by omega), upd_n (by omega), upd_n (by omega)]
  refine ⟨_, fun h1 => LY h1 B ∧ hI h1 (B + 52) = hI h (B + 52) ∧ INV (setR h1 (B + 52) (spPause (hI h (B + 52)) N.1 k t z v).2) B, 5, 1, 5, 3, ⟨by decide, by decide, by decide, by decide⟩, (x_pause g h B _ N hX hb k t z v).weak (fun v_ h' q => ⟨q.1, H.ww (by intro a; unfold Wp; omega) q.2 eS⟩), fun h1 k1 => ⟨k1.1, ?_⟩⟩
  obtain ⟨l1, e52, hi1⟩ := k1
  have M_ := m_pause g h1 B l1 N.1 (by rw [e52, G.1.1]; exact IX.n (by have := G.1.2; omega)) G.1.2 k t z v
  rw [show SM h1 B = hI h1 (B + 52) from rfl, e52] at M_
  exact M_.weak (fun v_ h' q => ⟨q.1, by rw [q.2]; exact hi1⟩)
theorem s_set (g : GG) (h : AH) (B : Nat) (H : INV h B) (w : Int32) (n : Int32) : SIMI g h B mX11_set mX12_set [.int w, .int n] := by
  obtain ⟨hL, hb, ty1, ty2, ⟨N, hs⟩, hi, htr, hd⟩ := id H
  have hX := hs.xn hL
  have G := hs.2.1
  have eS : ∀ j, j = 2 ∨ (208 ≤ j ∧ j < 918) → (spSet (hI h (B + 52)) w n).2 j = hI h (B + 52) j := fun j hj => by
    unfold spSet
    split
    · rfl
    · rename_i q
      have q2 := (oO_le (n := w) (z := 2) (b := 2) (by decide) (by simpa using q)).2
      (repeat' split) <;> first | rfl | exact upd_n (by omega)
  refine ⟨_, fun h1 => LY h1 B ∧ hI h1 (B + 52) = hI h (B + 52) ∧ INV (setR h1 (B + 52) (spSet (hI h (B + 52)) w n).2) B, 3, 0, 0, 3, ⟨by decide, by decide, by decide, by decide⟩, (x_set g h B _ N hX hb w n).weak (fun v_ h' q => ⟨q.1, H.ww (by intro a; unfold Ws; omega) q.2 eS⟩), fun h1 k1 => ⟨k1.1, ?_⟩⟩
  obtain ⟨l1, e52, hi1⟩ := k1
  have M_ := m_set g h1 B l1 w n
  rw [show SM h1 B = hI h1 (B + 52) from rfl, e52] at M_
  exact M_.weak (fun v_ h' q => ⟨q.1, by rw [q.2]; exact hi1⟩)
theorem s_later (g : GG) (h : AH) (B : Nat) (H : INV h B) (p : Int32) (a : Int32) (b : Int32) : SIMI g h B mX11_later mX12_later [.int p, .int a, .int b] := by
  obtain ⟨hL, hb, ty1, ty2, ⟨N, hs⟩, hi, htr, hd⟩ := id H
  have hX := hs.xn hL
  have G := hs.2.1
  have eS : ∀ j, j = 2 ∨ (208 ≤ j ∧ j < 918) → (spLater (hI h (B + 52)) p a b).2 j = hI h (B + 52) j := fun j hj => by
    have n8 := G.1.2
    unfold spLater
    split
    · rfl
    · rename_i q
      have q2 := (oO_lt (n := p) (c := hI h (B + 52) 0) (k := N.1) (by rw [G.1.1]; exact IX.n (by omega)) (by simpa using q)).2
      split
      · rfl
      · show upd (upd (hI h (B + 52)) (162 + p.toNatClampNeg) a) (170 + p.toNatClampNeg) b j = _
        rw [upd_n (by omega), upd_n (by omega)]
  refine ⟨_, fun h1 => LY h1 B ∧ hI h1 (B + 52) = hI h (B + 52) ∧ INV (setR h1 (B + 52) (spLater (hI h (B + 52)) p a b).2) B, 3, 0, 0, 3, ⟨by decide, by decide, by decide, by decide⟩, (x_later g h B _ N hX hb p a b).weak (fun v_ h' q => ⟨q.1, H.ww (by intro a; unfold Wl; omega) q.2 eS⟩), fun h1 k1 => ⟨k1.1, ?_⟩⟩
  obtain ⟨l1, e52, hi1⟩ := k1
  have M_ := m_later g h1 B l1 N.1 (by rw [e52, G.1.1]; exact IX.n (by have := G.1.2; omega)) G.1.2 p a b
  rw [show SM h1 B = hI h1 (B + 52) from rfl, e52] at M_
  exact M_.weak (fun v_ h' q => ⟨q.1, by rw [q.2]; exact hi1⟩)
theorem s_feed (g : GG) (h : AH) (B : Nat) (H : INV h B) (x : Int64) (n : Int32) : SIMI g h B mX11_feed mX12_feed [.long x, .int n] := by
  obtain ⟨hL, hb, ty1, ty2, ⟨N, hs⟩, hi, htr, hd⟩ := id H
  have hX := hs.xn hL
  have G := hs.2.1
  have eS : ∀ j, j = 2 ∨ (208 ≤ j ∧ j < 918) → (spFeed (hI h (B + 52)) N.2.2.2.2 x n).2 j = hI h (B + 52) j := fun j hj => by
    have n8 := G.2.2.2.2.1.2
    unfold spFeed
    split
    · rfl
    · rename_i q
      have q2 := (oO_le1 (n := n) (z := 8) (b := 8) (by decide) (by simpa using q)).2
      split
      · rfl
      · show upd (wrL (hI h (B + 52)) (10 + N.2.2.2.2) (fdB x n.toNatClampNeg)) 4 _ j = _
        rw [upd_n (by omega)]
        rcases hj with hj | hj
        · exact wrL_lt _ _ _ _ (by omega)
        · exact wrL_ge _ _ _ _ (by rw [fdB_l]; omega)
  refine ⟨_, fun h1 => LY h1 B ∧ hI h1 (B + 52) = hI h (B + 52) ∧ INV (setR h1 (B + 52) (spFeed (hI h (B + 52)) N.2.2.2.2 x n).2) B, 3, 0, 0, 3, ⟨by decide, by decide, by decide, by decide⟩, (x_feed g h B _ N hX hb x n).weak (fun v_ h' q => ⟨q.1, H.ww (by intro a; unfold Wt; omega) q.2 eS⟩), fun h1 k1 => ⟨k1.1, ?_⟩⟩
  obtain ⟨l1, e52, hi1⟩ := k1
  have M_ := m_feed g h1 B l1 N.2.2.2.2 (by rw [e52]; exact G.2.2.2.2.1.1) G.2.2.2.2.1.2 x n
  rw [e52] at M_
  exact M_.weak (fun v_ h' q => ⟨q.1, by rw [q.2]; exact hi1⟩)
theorem s_work (g : GG) (h : AH) (B : Nat) (H : INV h B) (a : Int32) (b : Int32) (c : Int32) (d : Int32) : SIMI g h B mX11_work mX12_work [.int a, .int b, .int c, .int d] := by
  obtain ⟨hL, hb, ty1, ty2, ⟨N, hs⟩, hi, htr, hd⟩ := id H
  have hX := hs.xn hL
  have G := hs.2.1
  have eS : ∀ j, j = 2 ∨ (208 ≤ j ∧ j < 918) → (spWork (hI h (B + 52)) N.2.1 a b c d).2 j = hI h (B + 52) j := fun j hj => by
    have n5 := G.2.1.2
    unfold spWork
    split
    · rfl
    · split
      · rfl
      · rename_i q
        have q5 : N.2.1 ≠ 5 := fun z => q (by rw [G.2.1.1, z]; rfl)
        show upd (upd (upd (upd (upd (upd (upd (hI h (B + 52)) (178 + N.2.1) a) (183 + N.2.1) b) (188 + N.2.1) c) (193 + N.2.1) d) (198 + N.2.1) 0) (203 + N.2.1) 0) 1 _ j = _
        rw [upd_n (by omega), upd_n (by omega), upd_n (by omega), upd_n (by omega), upd_n (by omega), upd_n (by omega), upd_n (by omega)]
  refine ⟨_, fun h1 => LY h1 B ∧ hI h1 (B + 52) = hI h (B + 52) ∧ INV (setR h1 (B + 52) (spWork (hI h (B + 52)) N.2.1 a b c d).2) B, 3, 1, 6, 3, ⟨by decide, by decide, by decide, by decide⟩, (x_work g h B _ N hX hb a b c d).weak (fun v_ h' q => ⟨q.1, H.ww (by intro a; unfold Ww; omega) q.2 eS⟩), fun h1 k1 => ⟨k1.1, ?_⟩⟩
  obtain ⟨l1, e52, hi1⟩ := k1
  have M_ := m_work g h1 B l1 N.2.1 (by rw [e52, G.2.1.1]; exact IX.n (by have := G.2.1.2; omega)) G.2.1.2 a b c d
  rw [show SM h1 B = hI h1 (B + 52) from rfl, e52] at M_
  exact M_.weak (fun v_ h' q => ⟨q.1, by rw [q.2]; exact hi1⟩)
theorem s_call (g : GG) (h : AH) (B : Nat) (H : INV h B) (w : Int32) (t : Int32) (n : Int32) : SIMI g h B mX11_call mX12_call [.int w, .int t, .int n] := by
  obtain ⟨hL, hb, ty1, ty2, ⟨N, hs⟩, hi, htr, hd⟩ := id H
  have hX := hs.xn hL
  have G := hs.2.1
  have eS : ∀ j, j = 2 ∨ (208 ≤ j ∧ j < 918) → (spCall (hI h (B + 52)) w t n).2 j = hI h (B + 52) j := fun j hj => by
    have n5 := G.2.1.2
    unfold spCall
    split
    · rfl
    · rename_i q
      have q2 := (oO_lt (n := w) (c := hI h (B + 52) 1) (k := N.2.1) (by rw [G.2.1.1]; exact IX.n (by omega)) (by simpa using q)).2
      split
      · rfl
      · show upd (upd (hI h (B + 52)) (198 + w.toNatClampNeg) t) (203 + w.toNatClampNeg) n j = _
        rw [upd_n (by omega), upd_n (by omega)]
  refine ⟨_, fun h1 => LY h1 B ∧ hI h1 (B + 52) = hI h (B + 52) ∧ INV (setR h1 (B + 52) (spCall (hI h (B + 52)) w t n).2) B, 3, 1, 6, 3, ⟨by decide, by decide, by decide, by decide⟩, (x_call g h B _ N hX hb w t n).weak (fun v_ h' q => ⟨q.1, H.ww (by intro a; unfold Wc; omega) q.2 eS⟩), fun h1 k1 => ⟨k1.1, ?_⟩⟩
  obtain ⟨l1, e52, hi1⟩ := k1
  have M_ := m_call g h1 B l1 N.2.1 (by rw [e52, G.2.1.1]; exact IX.n (by have := G.2.1.2; omega)) G.2.1.2 w t n
  rw [e52] at M_
  exact M_.weak (fun v_ h' q => ⟨q.1, by rw [q.2]; exact hi1⟩)
theorem s_row (g : GG) (h : AH) (B : Nat) (H : INV h B) (v : Int32) : SIMI g h B mX11_row mX12_row [.int v] := by
  obtain ⟨hL, hb, ty1, ty2, ⟨N, hs⟩, hi, htr, hd⟩ := id H
  have hX := hs.xn hL
  have G := hs.2.1
  have eS : ∀ j, j = 2 ∨ (208 ≤ j ∧ j < 918) → (spRow (hI h (B + 52)) N.2.2.2.1 v).2 j = hI h (B + 52) j := fun j hj => by
    unfold spRow
    split
    · exact upd_n (by omega)
    · split
      · rfl
      · split
        · rfl
        · show upd (upd (hI h (B + 52)) (918 + N.2.2.2.1) v) 3 _ j = _
          rw [upd_n (by omega), upd_n (by omega)]
  refine ⟨_, fun h1 => LY h1 B ∧ hI h1 (B + 52) = hI h (B + 52) ∧ INV (setR h1 (B + 52) (spRow (hI h (B + 52)) N.2.2.2.1 v).2) B, 3, 0, 0, 3, ⟨by decide, by decide, by decide, by decide⟩, (x_row g h B _ N hX hb v).weak (fun v_ h' q => ⟨q.1, H.ww (by intro a; unfold Wr; omega) q.2 eS⟩), fun h1 k1 => ⟨k1.1, ?_⟩⟩
  obtain ⟨l1, e52, hi1⟩ := k1
  have M_ := m_row g h1 B l1 N.2.2.2.1 (by rw [e52, G.2.2.2.1.1]; exact IX.n (by have := G.2.2.2.1.2; omega)) G.2.2.2.1.2 v
  rw [show SM h1 B = hI h1 (B + 52) from rfl, e52] at M_
  exact M_.weak (fun v_ h' q => ⟨q.1, by rw [q.2]; exact hi1⟩)
