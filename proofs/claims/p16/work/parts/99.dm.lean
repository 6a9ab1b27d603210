/-! the model's drop and forget -/
theorem m_in0 {d t : Nat} {h : zh} {x l u : Int32} (h1 : ¬ (l.toInt ≤ x.toInt ∧ x.toInt ≤ u.toInt)) : qI (d + 1) 162 [some (zi x), some (zi l), some (zi u)] h t (fun y h1 => h = h1 ∧ y.toInt = 0) := by
  refine qI_of ?_
  refine y_same (i := .iload_n 0) (len := 1) (r := (0, 0, 0, 0)) (pc' := 1) (ls' := [some (zi x), some (zi l), some (zi u)]) (st' := [zi x]) (by decide +kernel) (fun k q => by cases q) rfl ?_
  refine y_same (i := .iload_n 1) (len := 1) (r := (0, 0, 0, 0)) (pc' := 2) (ls' := [some (zi x), some (zi l), some (zi u)]) (st' := [zi l, zi x]) (by decide +kernel) (fun k q => by cases q) rfl ?_
  rcases Decidable.em (x.toInt < l.toInt) with q1918 | q1918
  ·
    refine y_cT (c := .lt) (off := 12) (pc' := 14) (len := 3) (r := (0, 0, 0, 0)) (by decide +kernel) (acmpT (c := .lt) (by show _ < _; omega)) (by decide +kernel) ?_
    refine y_ic (c := 0) (len := 1) (r := (0, 0, 0, 0)) (by decide +kernel) (by decide) (fun y1919 hy1919 => ?_)
    refine y_rI (len := 1) (r := (0, 0, 0, 0)) (nL := 3) (k := 2) (n9 := 3) (hs := []) (by decide +kernel) rfl (zfit_b (by omega) (by omega)).2 ?_
    exact ⟨rfl, by omega⟩
  ·
    refine y_cF (c := .lt) (off := 12) (len := 3) (r := (0, 0, 0, 0)) (by decide +kernel) (acmpF (c := .lt) (by show _ ≤ _; omega)) ?_
    refine y_same (i := .iload_n 0) (len := 1) (r := (0, 0, 0, 0)) (pc' := 6) (ls' := [some (zi x), some (zi l), some (zi u)]) (st' := [zi x]) (by decide +kernel) (fun k q => by cases q) rfl ?_
    refine y_same (i := .iload_n 2) (len := 1) (r := (0, 0, 0, 0)) (pc' := 7) (ls' := [some (zi x), some (zi l), some (zi u)]) (st' := [zi u, zi x]) (by decide +kernel) (fun k q => by cases q) rfl ?_
    rcases Decidable.em (x.toInt > u.toInt) with q1920 | q1920
    ·
      refine y_cT (c := .gt) (off := 7) (pc' := 14) (len := 3) (r := (0, 0, 0, 0)) (by decide +kernel) (acmpT (c := .gt) (by show _ < _; omega)) (by decide +kernel) ?_
      refine y_ic (c := 0) (len := 1) (r := (0, 0, 0, 0)) (by decide +kernel) (by decide) (fun y1921 hy1921 => ?_)
      refine y_rI (len := 1) (r := (0, 0, 0, 0)) (nL := 3) (k := 2) (n9 := 3) (hs := []) (by decide +kernel) rfl (zfit_b (by omega) (by omega)).2 ?_
      exact ⟨rfl, by omega⟩
    ·
      refine y_cF (c := .gt) (off := 7) (len := 3) (r := (0, 0, 0, 0)) (by decide +kernel) (acmpF (c := .gt) (by show _ ≤ _; omega)) ?_
      refine y_ic (c := 1) (len := 1) (r := (0, 0, 0, 0)) (by decide +kernel) (by decide) (fun y1922 hy1922 => ?_)
      refine y_goto (off := 4) (pc' := 15) (len := 3) (r := (0, 0, 0, 0)) (by decide +kernel) (by decide +kernel) ?_
      refine y_rI (len := 1) (r := (0, 0, 0, 0)) (nL := 3) (k := 2) (n9 := 3) (hs := []) (by decide +kernel) rfl (zfit_b (by omega) (by omega)).2 ?_
      exact ⟨rfl, by omega⟩
theorem m_bad1 {d t e : Nat} {τ : List Nat} {h : zh} {x c xe x0 : Int32} (hg : hG τ h) (hx : x.toInt = 1) (hc : 1 ≤ c.toInt ∧ c.toInt ≤ 2) (he : xe.toInt = (e : Int)) (he3 : e < 3) (hx0 : hsl h 52 0 = some (zi x0)) (e0 : x0.toInt = 0) : qI (d + 1) 161 [some (.inl (some 52)), some (zi x), some (zi c), some (zi xe)] h t (fun y h1 => hG τ h1 ∧ y.toInt = 1 ∧ (∃ z : Int32, hsl h1 52 0 = some (zi z) ∧ z.toInt = c.toInt) ∧ ∀ k j, (k ≠ 53 ∧ (k ≠ 52 ∨ j ≠ 0)) → hsl h1 k j = hsl h k j) := by
  refine qI_of ?_
  refine y_same (i := .iload_n 1) (len := 1) (r := (0, 0, 0, 0)) (pc' := 1) (ls' := [some (.inl (some 52)), some (zi x), some (zi c), some (zi xe)]) (st' := [zi x]) (by decide +kernel) (fun k q => by cases q) rfl ?_
  refine y_iF (c := .eq) (off := 25) (len := 3) (r := (0, 0, 0, 0)) (by decide +kernel) (acmpF (c := .eq) (by show ¬ (_ = _); omega)) ?_
  refine y_same (i := .aload_n 0) (len := 1) (r := (0, 0, 0, 0)) (pc' := 5) (ls' := [some (.inl (some 52)), some (zi x), some (zi c), some (zi xe)]) (st' := [.inl (some 52)]) (by decide +kernel) (fun k q => by cases q) rfl ?_
  refine y_get (j := 92) (len := 3) (r := (12, 0, 0, 1328)) (by decide +kernel) hg (t52 hg) at52 rfl rfl hx0 ?_
  refine y_iF (c := .ne) (off := 18) (len := 3) (r := (0, 0, 0, 0)) (by decide +kernel) (acmpF (c := .ne) (by show _ = _; omega)) ?_
  refine y_same (i := .aload_n 0) (len := 1) (r := (0, 0, 0, 0)) (pc' := 12) (ls' := [some (.inl (some 52)), some (zi x), some (zi c), some (zi xe)]) (st' := [.inl (some 52)]) (by decide +kernel) (fun k q => by cases q) rfl ?_
  refine y_same (i := .iload_n 2) (len := 1) (r := (0, 0, 0, 0)) (pc' := 13) (ls' := [some (.inl (some 52)), some (zi x), some (zi c), some (zi xe)]) (st' := [zi c, .inl (some 52)]) (by decide +kernel) (fun k q => by cases q) rfl ?_
  refine y_put (j := 92) (lo := (-2147483648)) (hi := 2147483647) (len := 3) (r := (12, 0, 0, 1328)) (by decide +kernel) hg (t52 hg) at52 rfl rfl (by decide) rfl (qin_full _).1 (qin_full _).2 rfl (fun h1923 hg1923 hl1923 hs1923 ho1923 => ?_)
  have ho1923 : hO 52 0 h h1923 := ho1923
  have hs1923 : hsl h1923 52 0 = some (zi c) := hs1923
  refine y_same (i := .aload_n 0) (len := 1) (r := (0, 0, 0, 0)) (pc' := 17) (ls' := [some (.inl (some 52)), some (zi x), some (zi c), some (zi xe)]) (st' := [.inl (some 52)]) (by decide +kernel) (fun k q => by cases q) rfl ?_
  refine y_get (j := 9) (len := 3) (r := (12, 1, 2, 1329)) (by decide +kernel) hg1923 (t52 hg1923) at52 rfl rfl (g_r52 (f := 1) (T2 := 53) hg1923 rfl (by decide)).1 ?_
  refine y_same (i := .iload_n 3) (len := 1) (r := (0, 0, 0, 0)) (pc' := 21) (ls' := [some (.inl (some 52)), some (zi x), some (zi c), some (zi xe)]) (st' := [zi xe, .inl (some 53)]) (by decide +kernel) (fun k q => by cases q) rfl ?_
  refine y_same (i := .dup2) (len := 1) (r := (0, 0, 0, 0)) (pc' := 22) (ls' := [some (.inl (some 52)), some (zi x), some (zi c), some (zi xe)]) (st' := [zi xe, .inl (some 53), zi xe, .inl (some 53)]) (by decide +kernel) (fun k q => by cases q) rfl ?_
  obtain ⟨v1924, hv1925, lv1924, uv1924⟩ := g_int (i := e) hg1923 (tu53 hg1923) at53 (show e < 3 by omega) (sr1 (by omega))
  refine y_ial (i := e) (len := 1) (r := (0, 0, 0, 0)) (by decide +kernel) hg1923 (tu53 hg1923) at53 (by omega) hv1925 ?_
  refine y_ic (c := 1) (len := 1) (r := (0, 0, 0, 0)) (by decide +kernel) (by decide) (fun y1926 hy1926 => ?_)
  refine y_bp (i := .iadd) (f := fun x y => x + y) (len := 1) (r := (0, 0, 0, 0)) (by decide +kernel) rfl rfl (fun y1927 hy1927 => ?_)
  refine y_ias (i := e) (len := 1) (r := (0, 0, 0, 0)) (by decide +kernel) hg1923 (tu53 hg1923) at53 rfl (by omega) (by omega) (sr1 (by omega)) (qin_full _).1 (qin_full _).2 (fun h1928 hg1928 hl1928 hs1928 ho1928 => ?_)
  refine y_same (i := .aload_n 0) (len := 1) (r := (0, 0, 0, 0)) (pc' := 27) (ls' := [some (.inl (some 52)), some (zi x), some (zi c), some (zi xe)]) (st' := [.inl (some 52)]) (by decide +kernel) (fun k q => by cases q) rfl ?_
  have hv1929 := (ho1928 52 0 (Or.inl (by omega))).trans hs1923
  refine y_get (j := 92) (len := 3) (r := (12, 0, 0, 1328)) (by decide +kernel) hg1928 (t52 hg1928) at52 rfl rfl hv1929 ?_
  refine y_iF (c := .eq) (off := 7) (len := 3) (r := (0, 0, 0, 0)) (by decide +kernel) (acmpF (c := .eq) (by show ¬ (_ = _); omega)) ?_
  refine y_ic (c := 1) (len := 1) (r := (0, 0, 0, 0)) (by decide +kernel) (by decide) (fun y1930 hy1930 => ?_)
  refine y_goto (off := 4) (pc' := 38) (len := 3) (r := (0, 0, 0, 0)) (by decide +kernel) (by decide +kernel) ?_
  refine y_rI (len := 1) (r := (0, 0, 0, 0)) (nL := 4) (k := 2) (n9 := 4) (hs := []) (by decide +kernel) rfl (zfit_b (by omega) (by omega)).2 ?_
  exact ⟨hg1928, by omega, ⟨_, hv1929, by omega⟩, fun k j hC => ((ho1928 k j (by omega)).trans (ho1923 k j (by omega)))⟩
theorem m_partAt {d t s k : Nat} {h : zh} {x xk : Int32} (hx : x.toInt = (s : Int)) (hs : s ≤ 1) (hk : xk.toInt = (k : Int)) (hk9 : k < 10) : qI (d + 1) 168 [some (zi x), some (zi xk)] h t (fun y h1 => h = h1 ∧ y.toInt = ((46 * s + 2 + 4 * k : Nat) : Int)) := by
  refine qI_of ?_
  refine y_bi (c := 46) (len := 2) (r := (0, 0, 0, 0)) (by decide +kernel) (by decide) (fun y1931 hy1931 => ?_)
  refine y_same (i := .iload_n 0) (len := 1) (r := (0, 0, 0, 0)) (pc' := 3) (ls' := [some (zi x), some (zi xk)]) (st' := [zi x, zi y1931]) (by decide +kernel) (fun k q => by cases q) rfl ?_
  refine y_mul (c := 46) (len := 1) (r := (0, 0, 0, 0)) (by decide +kernel) (by omega) (by omega) (by omega) (fun y1932 hy1932 => ?_)
  refine y_ic (c := 2) (len := 1) (r := (0, 0, 0, 0)) (by decide +kernel) (by decide) (fun y1933 hy1933 => ?_)
  refine y_add (len := 1) (r := (0, 0, 0, 0)) (by decide +kernel) (by omega) (by omega) (fun y1934 hy1934 => ?_)
  refine y_ic (c := 4) (len := 1) (r := (0, 0, 0, 0)) (by decide +kernel) (by decide) (fun y1935 hy1935 => ?_)
  refine y_same (i := .iload_n 1) (len := 1) (r := (0, 0, 0, 0)) (pc' := 8) (ls' := [some (zi x), some (zi xk)]) (st' := [zi xk, zi y1935, zi y1934]) (by decide +kernel) (fun k q => by cases q) rfl ?_
  refine y_mul (c := 4) (len := 1) (r := (0, 0, 0, 0)) (by decide +kernel) (by omega) (by omega) (by omega) (fun y1936 hy1936 => ?_)
  refine y_add (len := 1) (r := (0, 0, 0, 0)) (by decide +kernel) (by omega) (by omega) (fun y1937 hy1937 => ?_)
  refine y_rI (len := 1) (r := (0, 0, 0, 0)) (nL := 2) (k := 1) (n9 := 2) (hs := []) (by decide +kernel) rfl rfl ?_
  exact ⟨rfl, by omega⟩
theorem m_claimAt {d t s k : Nat} {h : zh} {x xk : Int32} (hx : x.toInt = (s : Int)) (hs : s ≤ 1) (hk : xk.toInt = (k : Int)) (hk9 : k < 10) : qI (d + 1) 169 [some (zi x), some (zi xk)] h t (fun y h1 => h = h1 ∧ y.toInt = ((46 * s + 22 + 4 * k : Nat) : Int)) := by
  refine qI_of ?_
  refine y_bi (c := 46) (len := 2) (r := (0, 0, 0, 0)) (by decide +kernel) (by decide) (fun y1938 hy1938 => ?_)
  refine y_same (i := .iload_n 0) (len := 1) (r := (0, 0, 0, 0)) (pc' := 3) (ls' := [some (zi x), some (zi xk)]) (st' := [zi x, zi y1938]) (by decide +kernel) (fun k q => by cases q) rfl ?_
  refine y_mul (c := 46) (len := 1) (r := (0, 0, 0, 0)) (by decide +kernel) (by omega) (by omega) (by omega) (fun y1939 hy1939 => ?_)
  refine y_ic (c := 2) (len := 1) (r := (0, 0, 0, 0)) (by decide +kernel) (by decide) (fun y1940 hy1940 => ?_)
  refine y_add (len := 1) (r := (0, 0, 0, 0)) (by decide +kernel) (by omega) (by omega) (fun y1941 hy1941 => ?_)
  refine y_bi (c := 20) (len := 2) (r := (0, 0, 0, 0)) (by decide +kernel) (by decide) (fun y1942 hy1942 => ?_)
  refine y_add (len := 1) (r := (0, 0, 0, 0)) (by decide +kernel) (by omega) (by omega) (fun y1943 hy1943 => ?_)
  refine y_ic (c := 4) (len := 1) (r := (0, 0, 0, 0)) (by decide +kernel) (by decide) (fun y1944 hy1944 => ?_)
  refine y_same (i := .iload_n 1) (len := 1) (r := (0, 0, 0, 0)) (pc' := 11) (ls' := [some (zi x), some (zi xk)]) (st' := [zi xk, zi y1944, zi y1943]) (by decide +kernel) (fun k q => by cases q) rfl ?_
  refine y_mul (c := 4) (len := 1) (r := (0, 0, 0, 0)) (by decide +kernel) (by omega) (by omega) (by omega) (fun y1945 hy1945 => ?_)
  refine y_add (len := 1) (r := (0, 0, 0, 0)) (by decide +kernel) (by omega) (by omega) (fun y1946 hy1946 => ?_)
  refine y_rI (len := 1) (r := (0, 0, 0, 0)) (nL := 2) (k := 1) (n9 := 2) (hs := []) (by decide +kernel) rfl rfl ?_
  exact ⟨rfl, by omega⟩
theorem m_four5 {d t p : Nat} {τ : List Nat} {h : zh} {x a b c e : Int32} (hg : hG τ h) (hx : x.toInt = (p : Int)) (hp : (2 ≤ p ∧ p + 4 ≤ 46) ∨ (48 ≤ p ∧ p + 4 ≤ 92)) (ha : a.toInt = 0) (hb : b.toInt = 0) (hc : c.toInt = 0) (he : e.toInt = 0) : qV (d + 1) 179 [some (.inl (some 55)), some (zi x), some (zi a), some (zi b), some (zi c), some (zi e)] h t (fun h1 => hG τ h1 ∧ ∀ k j, (k ≠ 55 ∨ j < p ∨ p + 4 ≤ j) → hsl h1 k j = hsl h k j) := by
  refine qV_of ?_
  refine y_same (i := .aload_n 0) (len := 1) (r := (0, 0, 0, 0)) (pc' := 1) (ls' := [some (.inl (some 55)), some (zi x), some (zi a), some (zi b), some (zi c), some (zi e)]) (st' := [.inl (some 55)]) (by decide +kernel) (fun k q => by cases q) rfl ?_
  refine y_same (i := .iload_n 1) (len := 1) (r := (0, 0, 0, 0)) (pc' := 2) (ls' := [some (.inl (some 55)), some (zi x), some (zi a), some (zi b), some (zi c), some (zi e)]) (st' := [zi x, .inl (some 55)]) (by decide +kernel) (fun k q => by cases q) rfl ?_
  refine y_same (i := .iload_n 2) (len := 1) (r := (0, 0, 0, 0)) (pc' := 3) (ls' := [some (.inl (some 55)), some (zi x), some (zi a), some (zi b), some (zi c), some (zi e)]) (st' := [zi a, zi x, .inl (some 55)]) (by decide +kernel) (fun k q => by cases q) rfl ?_
  refine y_ias (i := p) (len := 1) (r := (0, 0, 0, 0)) (by decide +kernel) hg (tv55 hg) av55 rfl (by omega) (by omega) (sr92 _ (by omega)) (by omega) (by omega) (fun h1947 hg1947 hl1947 hs1947 ho1947 => ?_)
  refine y_same (i := .aload_n 0) (len := 1) (r := (0, 0, 0, 0)) (pc' := 5) (ls' := [some (.inl (some 55)), some (zi x), some (zi a), some (zi b), some (zi c), some (zi e)]) (st' := [.inl (some 55)]) (by decide +kernel) (fun k q => by cases q) rfl ?_
  refine y_same (i := .iload_n 1) (len := 1) (r := (0, 0, 0, 0)) (pc' := 6) (ls' := [some (.inl (some 55)), some (zi x), some (zi a), some (zi b), some (zi c), some (zi e)]) (st' := [zi x, .inl (some 55)]) (by decide +kernel) (fun k q => by cases q) rfl ?_
  refine y_ic (c := 1) (len := 1) (r := (0, 0, 0, 0)) (by decide +kernel) (by decide) (fun y1948 hy1948 => ?_)
  refine y_add (len := 1) (r := (0, 0, 0, 0)) (by decide +kernel) (by omega) (by omega) (fun y1949 hy1949 => ?_)
  refine y_same (i := .iload_n 3) (len := 1) (r := (0, 0, 0, 0)) (pc' := 9) (ls' := [some (.inl (some 55)), some (zi x), some (zi a), some (zi b), some (zi c), some (zi e)]) (st' := [zi b, zi y1949, .inl (some 55)]) (by decide +kernel) (fun k q => by cases q) rfl ?_
  refine y_ias (i := (p + 1)) (len := 1) (r := (0, 0, 0, 0)) (by decide +kernel) hg1947 (tv55 hg1947) av55 rfl (by omega) (by omega) (sr92 _ (by omega)) (by omega) (by omega) (fun h1950 hg1950 hl1950 hs1950 ho1950 => ?_)
  refine y_same (i := .aload_n 0) (len := 1) (r := (0, 0, 0, 0)) (pc' := 11) (ls' := [some (.inl (some 55)), some (zi x), some (zi a), some (zi b), some (zi c), some (zi e)]) (st' := [.inl (some 55)]) (by decide +kernel) (fun k q => by cases q) rfl ?_
  refine y_same (i := .iload_n 1) (len := 1) (r := (0, 0, 0, 0)) (pc' := 12) (ls' := [some (.inl (some 55)), some (zi x), some (zi a), some (zi b), some (zi c), some (zi e)]) (st' := [zi x, .inl (some 55)]) (by decide +kernel) (fun k q => by cases q) rfl ?_
  refine y_ic (c := 2) (len := 1) (r := (0, 0, 0, 0)) (by decide +kernel) (by decide) (fun y1951 hy1951 => ?_)
  refine y_add (len := 1) (r := (0, 0, 0, 0)) (by decide +kernel) (by omega) (by omega) (fun y1952 hy1952 => ?_)
  refine y_same (i := .iload 4) (len := 2) (r := (0, 0, 0, 0)) (pc' := 16) (ls' := [some (.inl (some 55)), some (zi x), some (zi a), some (zi b), some (zi c), some (zi e)]) (st' := [zi c, zi y1952, .inl (some 55)]) (by decide +kernel) (fun k q => by cases q) rfl ?_
  refine y_ias (i := (p + 2)) (len := 1) (r := (0, 0, 0, 0)) (by decide +kernel) hg1950 (tv55 hg1950) av55 rfl (by omega) (by omega) (sr92 _ (by omega)) (by omega) (by omega) (fun h1953 hg1953 hl1953 hs1953 ho1953 => ?_)
  refine y_same (i := .aload_n 0) (len := 1) (r := (0, 0, 0, 0)) (pc' := 18) (ls' := [some (.inl (some 55)), some (zi x), some (zi a), some (zi b), some (zi c), some (zi e)]) (st' := [.inl (some 55)]) (by decide +kernel) (fun k q => by cases q) rfl ?_
  refine y_same (i := .iload_n 1) (len := 1) (r := (0, 0, 0, 0)) (pc' := 19) (ls' := [some (.inl (some 55)), some (zi x), some (zi a), some (zi b), some (zi c), some (zi e)]) (st' := [zi x, .inl (some 55)]) (by decide +kernel) (fun k q => by cases q) rfl ?_
  refine y_ic (c := 3) (len := 1) (r := (0, 0, 0, 0)) (by decide +kernel) (by decide) (fun y1954 hy1954 => ?_)
  refine y_add (len := 1) (r := (0, 0, 0, 0)) (by decide +kernel) (by omega) (by omega) (fun y1955 hy1955 => ?_)
  refine y_same (i := .iload 5) (len := 2) (r := (0, 0, 0, 0)) (pc' := 23) (ls' := [some (.inl (some 55)), some (zi x), some (zi a), some (zi b), some (zi c), some (zi e)]) (st' := [zi e, zi y1955, .inl (some 55)]) (by decide +kernel) (fun k q => by cases q) rfl ?_
  refine y_ias (i := (p + 3)) (len := 1) (r := (0, 0, 0, 0)) (by decide +kernel) hg1953 (tv55 hg1953) av55 rfl (by omega) (by omega) (sr92 _ (by omega)) (by omega) (by omega) (fun h1956 hg1956 hl1956 hs1956 ho1956 => ?_)
  refine y_rV (len := 1) (r := (0, 0, 0, 0)) (nL := 6) (n9 := 6) (hs := []) (by decide +kernel) rfl ?_
  exact ⟨hg1956, fun k j hC => ((ho1956 k j (by omega)).trans ((ho1953 k j (by omega)).trans ((ho1950 k j (by omega)).trans (ho1947 k j (by omega)))))⟩
theorem cls_l {t f m : Nat} {τ : List Nat} {h0 : zh} {xf xm : Int32} (ef : xf.toInt = (f : Int)) (em : xm.toInt = (m : Int)) (hm1 : 1 ≤ m) (hf : (2 ≤ f ∧ f + 4 * m ≤ 46) ∨ (48 ≤ f ∧ f + 4 * m ≤ 92)) : ∀ (n : Nat) (h : zh) (i : Nat) (xi : Int32), hG τ h → (∀ j, f ≤ j → j < i → hsl h 55 j = hsl h0 55 (j + 4)) → (∀ j, i ≤ j → hsl h 55 j = hsl h0 55 j) → (∀ k j, (k ≠ 55 ∨ j < f) → hsl h k j = hsl h0 k j) → xi.toInt = (i : Int) → f ≤ i → i ≤ f + 4 * (m - 1) → f + 4 * (m - 1) ≤ i + n → qX 2 189 2 [some (.inl (some 52)), some (zi xf), some (zi xm), some (zi xi)] [] h t (rV (fun h1 => hG τ h1 ∧ (∀ j, f ≤ j → j < f + 4 * (m - 1) → hsl h1 55 j = hsl h0 55 (j + 4)) ∧ ∀ k j, (k ≠ 55 ∨ j < f ∨ f + 4 * m ≤ j) → hsl h1 k j = hsl h0 k j) t) := by
  intro n
  induction n with
  | zero =>
    intro h i xi hg c1 c2 c3 hxi hi1 hi hn
    refine y_same (i := .iload_n 3) (len := 1) (r := (0, 0, 0, 0)) (pc' := 3) (ls' := [some (.inl (some 52)), some (zi xf), some (zi xm), some (zi xi)]) (st' := [zi xi]) (by decide +kernel) (fun k q => by cases q) rfl ?_
    refine y_same (i := .iload_n 1) (len := 1) (r := (0, 0, 0, 0)) (pc' := 4) (ls' := [some (.inl (some 52)), some (zi xf), some (zi xm), some (zi xi)]) (st' := [zi xf, zi xi]) (by decide +kernel) (fun k q => by cases q) rfl ?_
    refine y_ic (c := 4) (len := 1) (r := (0, 0, 0, 0)) (by decide +kernel) (by decide) (fun y1968 hy1968 => ?_)
    refine y_same (i := .iload_n 2) (len := 1) (r := (0, 0, 0, 0)) (pc' := 6) (ls' := [some (.inl (some 52)), some (zi xf), some (zi xm), some (zi xi)]) (st' := [zi xm, zi y1968, zi xf, zi xi]) (by decide +kernel) (fun k q => by cases q) rfl ?_
    refine y_ic (c := 1) (len := 1) (r := (0, 0, 0, 0)) (by decide +kernel) (by decide) (fun y1969 hy1969 => ?_)
    refine y_sub (len := 1) (r := (0, 0, 0, 0)) (by decide +kernel) (by omega) (by omega) (fun y1970 hy1970 => ?_)
    refine y_mul (c := 4) (len := 1) (r := (0, 0, 0, 0)) (by decide +kernel) (by omega) (by omega) (by omega) (fun y1971 hy1971 => ?_)
    refine y_add (len := 1) (r := (0, 0, 0, 0)) (by decide +kernel) (by omega) (by omega) (fun y1972 hy1972 => ?_)
    refine y_cT (c := .ge) (off := 23) (pc' := 33) (len := 3) (r := (0, 0, 0, 0)) (by decide +kernel) (acmpT (c := .ge) (by show _ ≤ _; omega)) (by decide +kernel) ?_
    refine y_same (i := .aload_n 0) (len := 1) (r := (0, 0, 0, 0)) (pc' := 34) (ls' := [some (.inl (some 52)), some (zi xf), some (zi xm), some (zi xi)]) (st' := [.inl (some 52)]) (by decide +kernel) (fun k q => by cases q) rfl ?_
    refine y_get (j := 20) (len := 3) (r := (12, 9, 2, 1337)) (by decide +kernel) hg (t52 hg) at52 rfl rfl (g_r52 (f := 9) (T2 := 55) hg rfl (by decide)).1 ?_
    refine y_same (i := .iload_n 1) (len := 1) (r := (0, 0, 0, 0)) (pc' := 38) (ls' := [some (.inl (some 52)), some (zi xf), some (zi xm), some (zi xi)]) (st' := [zi xf, .inl (some 55)]) (by decide +kernel) (fun k q => by cases q) rfl ?_
    refine y_ic (c := 4) (len := 1) (r := (0, 0, 0, 0)) (by decide +kernel) (by decide) (fun y1973 hy1973 => ?_)
    refine y_same (i := .iload_n 2) (len := 1) (r := (0, 0, 0, 0)) (pc' := 40) (ls' := [some (.inl (some 52)), some (zi xf), some (zi xm), some (zi xi)]) (st' := [zi xm, zi y1973, zi xf, .inl (some 55)]) (by decide +kernel) (fun k q => by cases q) rfl ?_
    refine y_ic (c := 1) (len := 1) (r := (0, 0, 0, 0)) (by decide +kernel) (by decide) (fun y1974 hy1974 => ?_)
    refine y_sub (len := 1) (r := (0, 0, 0, 0)) (by decide +kernel) (by omega) (by omega) (fun y1975 hy1975 => ?_)
    refine y_mul (c := 4) (len := 1) (r := (0, 0, 0, 0)) (by decide +kernel) (by omega) (by omega) (by omega) (fun y1976 hy1976 => ?_)
    refine y_add (len := 1) (r := (0, 0, 0, 0)) (by decide +kernel) (by omega) (by omega) (fun y1977 hy1977 => ?_)
    refine y_ic (c := 0) (len := 1) (r := (0, 0, 0, 0)) (by decide +kernel) (by decide) (fun y1978 hy1978 => ?_)
    refine y_ic (c := 0) (len := 1) (r := (0, 0, 0, 0)) (by decide +kernel) (by decide) (fun y1979 hy1979 => ?_)
    refine y_ic (c := 0) (len := 1) (r := (0, 0, 0, 0)) (by decide +kernel) (by decide) (fun y1980 hy1980 => ?_)
    refine y_ic (c := 0) (len := 1) (r := (0, 0, 0, 0)) (by decide +kernel) (by decide) (fun y1981 hy1981 => ?_)
    refine y_cV (i := .invokestatic 151) (len := 3) (r := (1, 179, 12, 1549)) (nL := 6) (k := 0) (n := 6) (hs := []) (args := [.inl (some 55), zi y1977, zi y1978, zi y1979, zi y1980, zi y1981]) (rest := []) (l0 := [some (.inl (some 55)), some (zi y1977), some (zi y1978), some (zi y1979), some (zi y1980), some (zi y1981)]) (by decide +kernel) (Or.inl ⟨_, rfl⟩) rfl rfl rfl rfl (Nat.le_of_ble_eq_true rfl) rfl rfl (qV_le (by decide) (m_four5 (d := 0) (p := f + 4 * (m - 1)) hg (by omega) (by omega) (by omega) (by omega) (by omega) (by omega))) (fun h1982 hR1982 => ?_)
    obtain ⟨hg1982, F1982⟩ := hR1982
    refine y_rV (len := 1) (r := (0, 0, 0, 0)) (nL := 4) (n9 := 3) (hs := []) (by decide +kernel) rfl ?_
    have c3 : ∀ k j, (k ≠ 55 ∨ j < f ∨ f + 4 * m ≤ j) → hsl h k j = hsl h0 k j := fun k j hC => by
      rcases Decidable.em (k ≠ 55 ∨ j < f) with q9 | q9
      · exact c3 k j q9
      · have e9 : k = 55 := by omega
        subst e9
        exact c2 j (by omega)
    exact ⟨hg1982, fun j h1 h2 => ((F1982 55 j (by omega))).trans (c1 j h1 (by omega)), fun k j hC => ((F1982 k j (by omega))).trans (c3 k j (by omega))⟩
  | succ n ih =>
    intro h i xi hg c1 c2 c3 hxi hi1 hi hn
    rcases Nat.lt_or_ge i (f + 4 * (m - 1)) with q | q
    ·
      refine y_same (i := .iload_n 3) (len := 1) (r := (0, 0, 0, 0)) (pc' := 3) (ls' := [some (.inl (some 52)), some (zi xf), some (zi xm), some (zi xi)]) (st' := [zi xi]) (by decide +kernel) (fun k q => by cases q) rfl ?_
      refine y_same (i := .iload_n 1) (len := 1) (r := (0, 0, 0, 0)) (pc' := 4) (ls' := [some (.inl (some 52)), some (zi xf), some (zi xm), some (zi xi)]) (st' := [zi xf, zi xi]) (by decide +kernel) (fun k q => by cases q) rfl ?_
      refine y_ic (c := 4) (len := 1) (r := (0, 0, 0, 0)) (by decide +kernel) (by decide) (fun y1957 hy1957 => ?_)
      refine y_same (i := .iload_n 2) (len := 1) (r := (0, 0, 0, 0)) (pc' := 6) (ls' := [some (.inl (some 52)), some (zi xf), some (zi xm), some (zi xi)]) (st' := [zi xm, zi y1957, zi xf, zi xi]) (by decide +kernel) (fun k q => by cases q) rfl ?_
      refine y_ic (c := 1) (len := 1) (r := (0, 0, 0, 0)) (by decide +kernel) (by decide) (fun y1958 hy1958 => ?_)
      refine y_sub (len := 1) (r := (0, 0, 0, 0)) (by decide +kernel) (by omega) (by omega) (fun y1959 hy1959 => ?_)
      refine y_mul (c := 4) (len := 1) (r := (0, 0, 0, 0)) (by decide +kernel) (by omega) (by omega) (by omega) (fun y1960 hy1960 => ?_)
      refine y_add (len := 1) (r := (0, 0, 0, 0)) (by decide +kernel) (by omega) (by omega) (fun y1961 hy1961 => ?_)
      refine y_cF (c := .ge) (off := 23) (len := 3) (r := (0, 0, 0, 0)) (by decide +kernel) (acmpF (c := .ge) (by show _ < _; omega)) ?_
      refine y_same (i := .aload_n 0) (len := 1) (r := (0, 0, 0, 0)) (pc' := 14) (ls' := [some (.inl (some 52)), some (zi xf), some (zi xm), some (zi xi)]) (st' := [.inl (some 52)]) (by decide +kernel) (fun k q => by cases q) rfl ?_
      refine y_get (j := 20) (len := 3) (r := (12, 9, 2, 1337)) (by decide +kernel) hg (t52 hg) at52 rfl rfl (g_r52 (f := 9) (T2 := 55) hg rfl (by decide)).1 ?_
      refine y_same (i := .iload_n 3) (len := 1) (r := (0, 0, 0, 0)) (pc' := 18) (ls' := [some (.inl (some 52)), some (zi xf), some (zi xm), some (zi xi)]) (st' := [zi xi, .inl (some 55)]) (by decide +kernel) (fun k q => by cases q) rfl ?_
      refine y_same (i := .aload_n 0) (len := 1) (r := (0, 0, 0, 0)) (pc' := 19) (ls' := [some (.inl (some 52)), some (zi xf), some (zi xm), some (zi xi)]) (st' := [.inl (some 52), zi xi, .inl (some 55)]) (by decide +kernel) (fun k q => by cases q) rfl ?_
      refine y_get (j := 20) (len := 3) (r := (12, 9, 2, 1337)) (by decide +kernel) hg (t52 hg) at52 rfl rfl (g_r52 (f := 9) (T2 := 55) hg rfl (by decide)).1 ?_
      refine y_same (i := .iload_n 3) (len := 1) (r := (0, 0, 0, 0)) (pc' := 23) (ls' := [some (.inl (some 52)), some (zi xf), some (zi xm), some (zi xi)]) (st' := [zi xi, .inl (some 55), zi xi, .inl (some 55)]) (by decide +kernel) (fun k q => by cases q) rfl ?_
      refine y_ic (c := 4) (len := 1) (r := (0, 0, 0, 0)) (by decide +kernel) (by decide) (fun y1962 hy1962 => ?_)
      refine y_add (len := 1) (r := (0, 0, 0, 0)) (by decide +kernel) (by omega) (by omega) (fun y1963 hy1963 => ?_)
      obtain ⟨v1964, hv1965, lv1964, uv1964⟩ := g_int (i := (i + 4)) hg (tv55 hg) av55 (show (i + 4) < 92 by omega) (sr92 _ (by omega))
      refine y_ial (i := (i + 4)) (len := 1) (r := (0, 0, 0, 0)) (by decide +kernel) hg (tv55 hg) av55 (by omega) hv1965 ?_
      refine y_ias (i := i) (len := 1) (r := (0, 0, 0, 0)) (by decide +kernel) hg (tv55 hg) av55 rfl (by omega) (by omega) (sr92 _ (by omega)) (by omega) (by omega) (fun h1966 hg1966 hl1966 hs1966 ho1966 => ?_)
      refine y_inc (j := 3) (a := xi) (c := 1) (ls' := fun v => [some (.inl (some 52)), some (zi xf), some (zi xm), some v]) (len := 3) (r := (0, 0, 0, 0)) (by decide +kernel) rfl (fun _ => rfl) (by decide) (by omega) (by omega) (fun y1967 hy1967 => ?_)
      show qX 2 189 30 [some (.inl (some 52)), some (zi xf), some (zi xm), some (zi y1967)] [] h1966 t _
      refine y_goto (off := (-28)) (pc' := 2) (len := 3) (r := (0, 0, 0, 0)) (by decide +kernel) (by decide +kernel) ?_
      refine ih h1966 (i + 1) y1967 hg1966 (fun j h1 h2 => ?_) (fun j hj => (ho1966 55 j (Or.inr (by omega))).trans (c2 j (by omega))) (fun k j hk => (ho1966 k j (by omega)).trans (c3 k j hk)) (by omega) (by omega) (by omega) (by omega)
      rcases Nat.lt_or_ge j i with q9 | q9
      · exact (ho1966 55 j (Or.inr (by omega))).trans (c1 j h1 q9)
      · have e9 : j = i := by omega
        subst e9
        exact hs1966.trans ((c2 (j + 4) (by omega)).symm.trans hv1965).symm
    ·
      refine y_same (i := .iload_n 3) (len := 1) (r := (0, 0, 0, 0)) (pc' := 3) (ls' := [some (.inl (some 52)), some (zi xf), some (zi xm), some (zi xi)]) (st' := [zi xi]) (by decide +kernel) (fun k q => by cases q) rfl ?_
      refine y_same (i := .iload_n 1) (len := 1) (r := (0, 0, 0, 0)) (pc' := 4) (ls' := [some (.inl (some 52)), some (zi xf), some (zi xm), some (zi xi)]) (st' := [zi xf, zi xi]) (by decide +kernel) (fun k q => by cases q) rfl ?_
      refine y_ic (c := 4) (len := 1) (r := (0, 0, 0, 0)) (by decide +kernel) (by decide) (fun y1983 hy1983 => ?_)
      refine y_same (i := .iload_n 2) (len := 1) (r := (0, 0, 0, 0)) (pc' := 6) (ls' := [some (.inl (some 52)), some (zi xf), some (zi xm), some (zi xi)]) (st' := [zi xm, zi y1983, zi xf, zi xi]) (by decide +kernel) (fun k q => by cases q) rfl ?_
      refine y_ic (c := 1) (len := 1) (r := (0, 0, 0, 0)) (by decide +kernel) (by decide) (fun y1984 hy1984 => ?_)
      refine y_sub (len := 1) (r := (0, 0, 0, 0)) (by decide +kernel) (by omega) (by omega) (fun y1985 hy1985 => ?_)
      refine y_mul (c := 4) (len := 1) (r := (0, 0, 0, 0)) (by decide +kernel) (by omega) (by omega) (by omega) (fun y1986 hy1986 => ?_)
      refine y_add (len := 1) (r := (0, 0, 0, 0)) (by decide +kernel) (by omega) (by omega) (fun y1987 hy1987 => ?_)
      refine y_cT (c := .ge) (off := 23) (pc' := 33) (len := 3) (r := (0, 0, 0, 0)) (by decide +kernel) (acmpT (c := .ge) (by show _ ≤ _; omega)) (by decide +kernel) ?_
      refine y_same (i := .aload_n 0) (len := 1) (r := (0, 0, 0, 0)) (pc' := 34) (ls' := [some (.inl (some 52)), some (zi xf), some (zi xm), some (zi xi)]) (st' := [.inl (some 52)]) (by decide +kernel) (fun k q => by cases q) rfl ?_
      refine y_get (j := 20) (len := 3) (r := (12, 9, 2, 1337)) (by decide +kernel) hg (t52 hg) at52 rfl rfl (g_r52 (f := 9) (T2 := 55) hg rfl (by decide)).1 ?_
      refine y_same (i := .iload_n 1) (len := 1) (r := (0, 0, 0, 0)) (pc' := 38) (ls' := [some (.inl (some 52)), some (zi xf), some (zi xm), some (zi xi)]) (st' := [zi xf, .inl (some 55)]) (by decide +kernel) (fun k q => by cases q) rfl ?_
      refine y_ic (c := 4) (len := 1) (r := (0, 0, 0, 0)) (by decide +kernel) (by decide) (fun y1988 hy1988 => ?_)
      refine y_same (i := .iload_n 2) (len := 1) (r := (0, 0, 0, 0)) (pc' := 40) (ls' := [some (.inl (some 52)), some (zi xf), some (zi xm), some (zi xi)]) (st' := [zi xm, zi y1988, zi xf, .inl (some 55)]) (by decide +kernel) (fun k q => by cases q) rfl ?_
      refine y_ic (c := 1) (len := 1) (r := (0, 0, 0, 0)) (by decide +kernel) (by decide) (fun y1989 hy1989 => ?_)
      refine y_sub (len := 1) (r := (0, 0, 0, 0)) (by decide +kernel) (by omega) (by omega) (fun y1990 hy1990 => ?_)
      refine y_mul (c := 4) (len := 1) (r := (0, 0, 0, 0)) (by decide +kernel) (by omega) (by omega) (by omega) (fun y1991 hy1991 => ?_)
      refine y_add (len := 1) (r := (0, 0, 0, 0)) (by decide +kernel) (by omega) (by omega) (fun y1992 hy1992 => ?_)
      refine y_ic (c := 0) (len := 1) (r := (0, 0, 0, 0)) (by decide +kernel) (by decide) (fun y1993 hy1993 => ?_)
      refine y_ic (c := 0) (len := 1) (r := (0, 0, 0, 0)) (by decide +kernel) (by decide) (fun y1994 hy1994 => ?_)
      refine y_ic (c := 0) (len := 1) (r := (0, 0, 0, 0)) (by decide +kernel) (by decide) (fun y1995 hy1995 => ?_)
      refine y_ic (c := 0) (len := 1) (r := (0, 0, 0, 0)) (by decide +kernel) (by decide) (fun y1996 hy1996 => ?_)
      refine y_cV (i := .invokestatic 151) (len := 3) (r := (1, 179, 12, 1549)) (nL := 6) (k := 0) (n := 6) (hs := []) (args := [.inl (some 55), zi y1992, zi y1993, zi y1994, zi y1995, zi y1996]) (rest := []) (l0 := [some (.inl (some 55)), some (zi y1992), some (zi y1993), some (zi y1994), some (zi y1995), some (zi y1996)]) (by decide +kernel) (Or.inl ⟨_, rfl⟩) rfl rfl rfl rfl (Nat.le_of_ble_eq_true rfl) rfl rfl (qV_le (by decide) (m_four5 (d := 0) (p := f + 4 * (m - 1)) hg (by omega) (by omega) (by omega) (by omega) (by omega) (by omega))) (fun h1997 hR1997 => ?_)
      obtain ⟨hg1997, F1997⟩ := hR1997
      refine y_rV (len := 1) (r := (0, 0, 0, 0)) (nL := 4) (n9 := 3) (hs := []) (by decide +kernel) rfl ?_
      have c3 : ∀ k j, (k ≠ 55 ∨ j < f ∨ f + 4 * m ≤ j) → hsl h k j = hsl h0 k j := fun k j hC => by
        rcases Decidable.em (k ≠ 55 ∨ j < f) with q9 | q9
        · exact c3 k j q9
        · have e9 : k = 55 := by omega
          subst e9
          exact c2 j (by omega)
      exact ⟨hg1997, fun j h1 h2 => ((F1997 55 j (by omega))).trans (c1 j h1 (by omega)), fun k j hC => ((F1997 k j (by omega))).trans (c3 k j (by omega))⟩
theorem m_closes {t f m : Nat} {τ : List Nat} {h : zh} {xf xm : Int32} (hg : hG τ h) (ef : xf.toInt = (f : Int)) (em : xm.toInt = (m : Int)) (hm1 : 1 ≤ m) (hf : (2 ≤ f ∧ f + 4 * m ≤ 46) ∨ (48 ≤ f ∧ f + 4 * m ≤ 92)) : qV 3 189 [some (.inl (some 52)), some (zi xf), some (zi xm), none] h t (fun h1 => hG τ h1 ∧ (∀ j, f ≤ j → j < f + 4 * (m - 1) → hsl h1 55 j = hsl h 55 (j + 4)) ∧ ∀ k j, (k ≠ 55 ∨ j < f ∨ f + 4 * m ≤ j) → hsl h1 k j = hsl h k j) := by
  refine qV_of ?_
  refine y_same (i := .iload_n 1) (len := 1) (r := (0, 0, 0, 0)) (pc' := 1) (ls' := [some (.inl (some 52)), some (zi xf), some (zi xm), none]) (st' := [zi xf]) (by decide +kernel) (fun k q => by cases q) rfl ?_
  refine y_same (i := .istore_n 3) (len := 1) (r := (0, 0, 0, 0)) (pc' := 2) (ls' := [some (.inl (some 52)), some (zi xf), some (zi xm), some (zi xf)]) (st' := []) (by decide +kernel) (fun k q => by cases q) rfl ?_
  exact cls_l ef em hm1 hf 92 h f xf hg (fun j h1 h2 => absurd h2 (by omega)) (fun j _ => rfl) (fun k j _ => rfl) ef (by omega) (by omega) (by omega)
theorem sdM_ep {h h1 : zh} {o k : Nat} {q : sdT} (r : sdM h 55 o q) (hk : k < q.1.length) (l5 : q.1.length ≤ 5) (l6 : q.2.length ≤ 6) (c : ci_ h1 55 o (q.1.length - 1)) (c1 : hsl h1 55 (o + 1) = hsl h 55 (o + 1)) (a : ∀ j, o + 2 + 4 * k ≤ j → j < o + 2 + 4 * k + 4 * (q.1.length - k - 1) → hsl h1 55 j = hsl h 55 (j + 4)) (F : ∀ j, ((o + 2 ≤ j ∧ j < o + 2 + 4 * k) ∨ (o + 22 ≤ j ∧ j < o + 46)) → hsl h1 55 j = hsl h 55 j) : sdM h1 55 o (q.1.eraseIdx k, q.2) := by
  obtain ⟨-, r2, r3, r4⟩ := r
  refine ⟨by rw [List.length_eraseIdx_of_lt hk]; exact c, ci_up r2 c1, fun j i hj => ?_, fun j i hj => ?_⟩
  · have hj9 := (List.getElem?_eq_some_iff.mp hj).1
    simp only at hj hj9
    rw [List.length_eraseIdx_of_lt hk] at hj9
    rw [List.getElem?_eraseIdx] at hj
    split at hj
    · exact qdM_up (r3 j i hj) (fun w hw => F _ (by omega))
    · refine qdM_up (r3 (j + 1) i hj) (fun w hw => ?_)
      have := a (o + 2 + 4 * j + w) (by omega) (by omega)
      rw [show o + 2 + 4 * (j + 1) + w = o + 2 + 4 * j + w + 4 by omega]
      exact this
  · have hj9 := (List.getElem?_eq_some_iff.mp hj).1
    simp only at hj hj9
    exact qdM_up (r4 j i hj) (fun w hw => F _ (by omega))
theorem sdM_ec {h h1 : zh} {o k : Nat} {q : sdT} (r : sdM h 55 o q) (hk : k < q.2.length) (l5 : q.1.length ≤ 5) (l6 : q.2.length ≤ 6) (c : ci_ h1 55 (o + 1) (q.2.length - 1)) (c1 : hsl h1 55 o = hsl h 55 o) (a : ∀ j, o + 22 + 4 * k ≤ j → j < o + 22 + 4 * k + 4 * (q.2.length - k - 1) → hsl h1 55 j = hsl h 55 (j + 4)) (F : ∀ j, ((o + 22 ≤ j ∧ j < o + 22 + 4 * k) ∨ (o + 2 ≤ j ∧ j < o + 22)) → hsl h1 55 j = hsl h 55 j) : sdM h1 55 o (q.1, q.2.eraseIdx k) := by
  obtain ⟨r1, -, r3, r4⟩ := r
  refine ⟨ci_up r1 c1, by rw [List.length_eraseIdx_of_lt hk]; exact c, fun j i hj => ?_, fun j i hj => ?_⟩
  · have hj9 := (List.getElem?_eq_some_iff.mp hj).1
    simp only at hj hj9
    exact qdM_up (r3 j i hj) (fun w hw => F _ (by omega))
  · have hj9 := (List.getElem?_eq_some_iff.mp hj).1
    simp only at hj hj9
    rw [List.length_eraseIdx_of_lt hk] at hj9
    rw [List.getElem?_eraseIdx] at hj
    split at hj
    · exact qdM_up (r4 j i hj) (fun w hw => F _ (by omega))
    · refine qdM_up (r4 (j + 1) i hj) (fun w hw => ?_)
      have := a (o + 22 + 4 * j + w) (by omega) (by omega)
      rw [show o + 22 + 4 * (j + 1) + w = o + 22 + 4 * j + w + 4 by omega]
      exact this
theorem m_drop0 {t k : Nat} {τ : List Nat} {h : zh} {cur : bsT} {hs : List bsT} {x xk : Int32} (hg : hG τ h) (rm : RM h cur hs) (hx : x.toInt = 0) (exk : xk.toInt = (k : Int)) (hk : k < cur.1.1.length) : qI 60 190 [some (.inl (some 52)), some (zi x), some (zi xk)] h t (fun y h1 => ∃ τ1, hG τ1 h1 ∧ RM h1 ((cur.1.1.eraseIdx k, cur.1.2), (cur.2.1, cur.2.2)) (psh hs cur) ∧ frM h h1 ∧ y.toInt = ((cur.1.1.length - 1 : Nat) : Int) ∧ ∃ z : Int32, hsl h1 52 0 = some (zi z) ∧ z.toInt = 0) := by
  refine qI_le (d := 21) (by decide) (qI_of ?_)
  have lz := len55 hg rm.1
  obtain ⟨⟨xp0z, hp0z, ep0z⟩, ⟨xc0z, hc0z, ec0z⟩, ip0z, ic0z⟩ := rm.1.1
  obtain ⟨⟨xp1z, hp1z, ep1z⟩, ⟨xc1z, hc1z, ec1z⟩, ip1z, ic1z⟩ := rm.1.2
  refine y_same (i := .aload_n 0) (len := 1) (r := (0, 0, 0, 0)) (pc' := 1) (ls' := [some (.inl (some 52)), some (zi x), some (zi xk)]) (st' := [.inl (some 52)]) (by decide +kernel) (fun k q => by cases q) rfl ?_
  refine y_ic (c := 0) (len := 1) (r := (0, 0, 0, 0)) (by decide +kernel) (by decide) (fun y2029 hy2029 => ?_)
  refine y_put (j := 92) (lo := (-2147483648)) (hi := 2147483647) (len := 3) (r := (12, 0, 0, 1328)) (by decide +kernel) hg (t52 hg) at52 rfl rfl (by decide) rfl (qin_full _).1 (qin_full _).2 rfl (fun h2030 hg2030 hl2030 hs2030 ho2030 => ?_)
  have ho2030 : hO 52 0 h h2030 := ho2030
  have hs2030 : hsl h2030 52 0 = some (zi y2029) := hs2030
  refine y_same (i := .aload_n 0) (len := 1) (r := (0, 0, 0, 0)) (pc' := 6) (ls' := [some (.inl (some 52)), some (zi x), some (zi xk)]) (st' := [.inl (some 52)]) (by decide +kernel) (fun k q => by cases q) rfl ?_
  refine y_same (i := .iload_n 1) (len := 1) (r := (0, 0, 0, 0)) (pc' := 7) (ls' := [some (.inl (some 52)), some (zi x), some (zi xk)]) (st' := [zi x, .inl (some 52)]) (by decide +kernel) (fun k q => by cases q) rfl ?_
  refine y_ic (c := 0) (len := 1) (r := (0, 0, 0, 0)) (by decide +kernel) (by decide) (fun y2031 hy2031 => ?_)
  refine y_ic (c := 1) (len := 1) (r := (0, 0, 0, 0)) (by decide +kernel) (by decide) (fun y2032 hy2032 => ?_)
  refine y_cI (i := .invokestatic 200) (len := 3) (r := (1, 162, 12, 1486)) (nL := 3) (k := 2) (n := 3) (hs := []) (args := [zi x, zi y2031, zi y2032]) (rest := [.inl (some 52)]) (l0 := [some (zi x), some (zi y2031), some (zi y2032)]) (by decide +kernel) (Or.inl ⟨_, rfl⟩) rfl rfl rfl rfl (Nat.le_of_ble_eq_true rfl) rfl rfl (qI_le (by decide) (m_in (d := 0) (by omega) (by omega))) (fun y2033 qy2033 hRy2033 => ?_)
  obtain ⟨rfl, hy2033⟩ := hRy2033
  refine y_iF (c := .eq) (off := 29) (len := 3) (r := (0, 0, 0, 0)) (by decide +kernel) (acmpF (c := .eq) (by show ¬ (_ = _); omega)) ?_
  refine y_same (i := .iload_n 2) (len := 1) (r := (0, 0, 0, 0)) (pc' := 16) (ls' := [some (.inl (some 52)), some (zi x), some (zi xk)]) (st' := [zi xk, .inl (some 52)]) (by decide +kernel) (fun k q => by cases q) rfl ?_
  refine y_ic (c := 0) (len := 1) (r := (0, 0, 0, 0)) (by decide +kernel) (by decide) (fun y2034 hy2034 => ?_)
  refine y_same (i := .aload_n 0) (len := 1) (r := (0, 0, 0, 0)) (pc' := 18) (ls' := [some (.inl (some 52)), some (zi x), some (zi xk)]) (st' := [.inl (some 52), zi y2034, zi xk, .inl (some 52)]) (by decide +kernel) (fun k q => by cases q) rfl ?_
  refine y_get (j := 20) (len := 3) (r := (12, 9, 2, 1337)) (by decide +kernel) hg2030 (t52 hg2030) at52 rfl rfl (g_r52 (f := 9) (T2 := 55) hg2030 rfl (by decide)).1 ?_
  refine y_ic (c := 1) (len := 1) (r := (0, 0, 0, 0)) (by decide +kernel) (by decide) (fun y2035 hy2035 => ?_)
  refine y_ic (c := 0) (len := 1) (r := (0, 0, 0, 0)) (by decide +kernel) (by decide) (fun y2036 hy2036 => ?_)
  refine y_same (i := .iload_n 1) (len := 1) (r := (0, 0, 0, 0)) (pc' := 24) (ls' := [some (.inl (some 52)), some (zi x), some (zi xk)]) (st' := [zi x, zi y2036, zi y2035, .inl (some 55), zi y2034, zi xk, .inl (some 52)]) (by decide +kernel) (fun k q => by cases q) rfl ?_
  refine y_cI (i := .invokestatic 230) (len := 3) (r := (1, 164, 12, 1591)) (nL := 2) (k := 1) (n := 2) (hs := []) (args := [zi y2036, zi x]) (rest := [zi y2035, .inl (some 55), zi y2034, zi xk, .inl (some 52)]) (l0 := [some (zi y2036), some (zi x)]) (by decide +kernel) (Or.inl ⟨_, rfl⟩) rfl rfl rfl rfl (Nat.le_of_ble_eq_true rfl) rfl rfl (qI_le (by decide) (e_more (d := 0))) (fun y2037 qy2037 hRy2037 => ?_)
  obtain ⟨rfl, my2037, ny2037⟩ := hRy2037
  have ey2037 : y2037.toInt = 0 := by omega
  refine y_cI (i := .invokestatic 233) (len := 3) (r := (1, 163, 12, 1594)) (nL := 2) (k := 1) (n := 2) (hs := []) (args := [zi y2035, zi y2037]) (rest := [.inl (some 55), zi y2034, zi xk, .inl (some 52)]) (l0 := [some (zi y2035), some (zi y2037)]) (by decide +kernel) (Or.inl ⟨_, rfl⟩) rfl rfl rfl rfl (Nat.le_of_ble_eq_true rfl) rfl rfl (qI_le (by decide) (e_less (d := 0))) (fun y2038 qy2038 hRy2038 => ?_)
  obtain ⟨rfl, my2038, ny2038⟩ := hRy2038
  have ey2038 : y2038.toInt = 0 := by omega
  have hv2040 := (ho2030 55 0 (Or.inl (by omega))).trans hp0z
  refine y_cI (i := .invokestatic 143) (len := 3) (r := (1, 166, 12, 1543)) (nL := 2) (k := 1) (n := 2) (hs := []) (args := [.inl (some 55), zi y2038]) (rest := [zi y2034, zi xk, .inl (some 52)]) (l0 := [some (.inl (some 55)), some (zi y2038)]) (by decide +kernel) (Or.inl ⟨_, rfl⟩) rfl rfl rfl rfl (Nat.le_of_ble_eq_true rfl) rfl rfl (qI_le (by decide) (m_parts (d := 0) (s := 0) hg2030 (by omega) (by omega) hv2040)) (fun y2039 qy2039 hRy2039 => ?_)
  obtain ⟨rfl, rfl⟩ := hRy2039
  refine y_ic (c := 1) (len := 1) (r := (0, 0, 0, 0)) (by decide +kernel) (by decide) (fun y2041 hy2041 => ?_)
  refine y_sub (len := 1) (r := (0, 0, 0, 0)) (by decide +kernel) (by omega) (by omega) (fun y2042 hy2042 => ?_)
  refine y_cI (i := .invokestatic 200) (len := 3) (r := (1, 162, 12, 1486)) (nL := 3) (k := 2) (n := 3) (hs := []) (args := [zi xk, zi y2034, zi y2042]) (rest := [.inl (some 52)]) (l0 := [some (zi xk), some (zi y2034), some (zi y2042)]) (by decide +kernel) (Or.inl ⟨_, rfl⟩) rfl rfl rfl rfl (Nat.le_of_ble_eq_true rfl) rfl rfl (qI_le (by decide) (m_in (d := 0) (by omega) (by omega))) (fun y2043 qy2043 hRy2043 => ?_)
  obtain ⟨rfl, hy2043⟩ := hRy2043
  refine y_iT (c := .ne) (off := 7) (pc' := 45) (len := 3) (r := (0, 0, 0, 0)) (by decide +kernel) (acmpT (c := .ne) (by show ¬ (_ = _); omega)) (by decide +kernel) ?_
  refine y_ic (c := 0) (len := 1) (r := (0, 0, 0, 0)) (by decide +kernel) (by decide) (fun y2044 hy2044 => ?_)
  refine y_ic (c := 1) (len := 1) (r := (0, 0, 0, 0)) (by decide +kernel) (by decide) (fun y2045 hy2045 => ?_)
  refine y_ic (c := 0) (len := 1) (r := (0, 0, 0, 0)) (by decide +kernel) (by decide) (fun y2046 hy2046 => ?_)
  refine y_cI (i := .invokevirtual 204) (len := 3) (r := (0, 161, 12, 1489)) (nL := 4) (k := 2) (n := 4) (hs := []) (args := [.inl (some 52), zi y2044, zi y2045, zi y2046]) (rest := []) (l0 := [some (.inl (some 52)), some (zi y2044), some (zi y2045), some (zi y2046)]) (by decide +kernel) (Or.inr (Or.inl ⟨_, rfl⟩)) rfl rfl rfl rfl (Nat.le_of_ble_eq_true rfl) (z52 hg2030) rfl (qI_le (by decide) (m_bad (d := 0) hg2030 (by omega) hs2030 (by omega))) (fun y2047 qy2047 hRy2047 => ?_)
  obtain ⟨rfl, hy2047⟩ := hRy2047
  refine y_iT (c := .eq) (off := 5) (pc' := 56) (len := 3) (r := (0, 0, 0, 0)) (by decide +kernel) (acmpT (c := .eq) (by show _ = _; omega)) (by decide +kernel) ?_
  refine y_same (i := .aload_n 0) (len := 1) (r := (0, 0, 0, 0)) (pc' := 57) (ls' := [some (.inl (some 52)), some (zi x), some (zi xk)]) (st' := [.inl (some 52)]) (by decide +kernel) (fun k q => by cases q) rfl ?_
  refine y_cV (i := .invokevirtual 213) (len := 3) (r := (0, 186, 12, 1568)) (nL := 2) (k := 0) (n := 1) (hs := []) (args := [.inl (some 52)]) (rest := []) (l0 := [some (.inl (some 52)), none]) (by decide +kernel) (Or.inr (Or.inl ⟨_, rfl⟩)) rfl rfl rfl rfl (Nat.le_of_ble_eq_true rfl) (z52 hg2030) rfl (qV_le (by decide) (m_rem hg2030 (RM_up rm (fun k j h1 => (ho2030 k j (by omega)))))) (fun h2048 hR2048 => ?_)
  obtain ⟨hg2048, rm2048, F2048⟩ := hR2048
  have le2048 := len55 hg2048 rm2048.1
  obtain ⟨⟨xp02048, hp02048, ep02048⟩, ⟨xc02048, hc02048, ec02048⟩, ip02048, ic02048⟩ := rm2048.1.1
  obtain ⟨⟨xp12048, hp12048, ep12048⟩, ⟨xc12048, hc12048, ec12048⟩, ip12048, ic12048⟩ := rm2048.1.2
  refine y_same (i := .aload_n 0) (len := 1) (r := (0, 0, 0, 0)) (pc' := 61) (ls' := [some (.inl (some 52)), some (zi x), some (zi xk)]) (st' := [.inl (some 52)]) (by decide +kernel) (fun k q => by cases q) rfl ?_
  refine y_same (i := .iload_n 1) (len := 1) (r := (0, 0, 0, 0)) (pc' := 62) (ls' := [some (.inl (some 52)), some (zi x), some (zi xk)]) (st' := [zi x, .inl (some 52)]) (by decide +kernel) (fun k q => by cases q) rfl ?_
  refine y_same (i := .iload_n 2) (len := 1) (r := (0, 0, 0, 0)) (pc' := 63) (ls' := [some (.inl (some 52)), some (zi x), some (zi xk)]) (st' := [zi xk, zi x, .inl (some 52)]) (by decide +kernel) (fun k q => by cases q) rfl ?_
  refine y_cI (i := .invokestatic 147) (len := 3) (r := (1, 168, 12, 1546)) (nL := 2) (k := 1) (n := 2) (hs := []) (args := [zi x, zi xk]) (rest := [.inl (some 52)]) (l0 := [some (zi x), some (zi xk)]) (by decide +kernel) (Or.inl ⟨_, rfl⟩) rfl rfl rfl rfl (Nat.le_of_ble_eq_true rfl) rfl rfl (qI_le (by decide) (m_partAt (d := 0) (s := 0) (k := k) (by omega) (by omega) exk (by omega))) (fun y2049 qy2049 hRy2049 => ?_)
  obtain ⟨rfl, hy2049⟩ := hRy2049
  refine y_same (i := .aload_n 0) (len := 1) (r := (0, 0, 0, 0)) (pc' := 67) (ls' := [some (.inl (some 52)), some (zi x), some (zi xk)]) (st' := [.inl (some 52), zi y2049, .inl (some 52)]) (by decide +kernel) (fun k q => by cases q) rfl ?_
  refine y_get (j := 20) (len := 3) (r := (12, 9, 2, 1337)) (by decide +kernel) hg2048 (t52 hg2048) at52 rfl rfl (g_r52 (f := 9) (T2 := 55) hg2048 rfl (by decide)).1 ?_
  refine y_same (i := .iload_n 1) (len := 1) (r := (0, 0, 0, 0)) (pc' := 71) (ls' := [some (.inl (some 52)), some (zi x), some (zi xk)]) (st' := [zi x, .inl (some 55), zi y2049, .inl (some 52)]) (by decide +kernel) (fun k q => by cases q) rfl ?_
  refine y_cI (i := .invokestatic 143) (len := 3) (r := (1, 166, 12, 1543)) (nL := 2) (k := 1) (n := 2) (hs := []) (args := [.inl (some 55), zi x]) (rest := [zi y2049, .inl (some 52)]) (l0 := [some (.inl (some 55)), some (zi x)]) (by decide +kernel) (Or.inl ⟨_, rfl⟩) rfl rfl rfl rfl (Nat.le_of_ble_eq_true rfl) rfl rfl (qI_le (by decide) (m_parts (d := 0) (s := 0) hg2048 (by omega) (by omega) hp02048)) (fun y2050 qy2050 hRy2050 => ?_)
  obtain ⟨rfl, rfl⟩ := hRy2050
  refine y_same (i := .iload_n 2) (len := 1) (r := (0, 0, 0, 0)) (pc' := 75) (ls' := [some (.inl (some 52)), some (zi x), some (zi xk)]) (st' := [zi xk, zi xp02048, zi y2049, .inl (some 52)]) (by decide +kernel) (fun k q => by cases q) rfl ?_
  refine y_sub (len := 1) (r := (0, 0, 0, 0)) (by decide +kernel) (by omega) (by omega) (fun y2051 hy2051 => ?_)
  refine y_cV (i := .invokevirtual 236) (len := 3) (r := (0, 189, 12, 1597)) (nL := 4) (k := 0) (n := 3) (hs := []) (args := [.inl (some 52), zi y2049, zi y2051]) (rest := []) (l0 := [some (.inl (some 52)), some (zi y2049), some (zi y2051), none]) (by decide +kernel) (Or.inr (Or.inl ⟨_, rfl⟩)) rfl rfl rfl rfl (Nat.le_of_ble_eq_true rfl) (z52 hg2048) rfl (qV_le (by decide) (m_closes (f := (2 + 4 * k)) (m := (cur.1.1.length - k)) hg2048 (by omega) (by omega) (by omega) (by omega))) (fun h2052 hR2052 => ?_)
  obtain ⟨hg2052, a2052, F2052⟩ := hR2052
  refine y_same (i := .aload_n 0) (len := 1) (r := (0, 0, 0, 0)) (pc' := 80) (ls' := [some (.inl (some 52)), some (zi x), some (zi xk)]) (st' := [.inl (some 52)]) (by decide +kernel) (fun k q => by cases q) rfl ?_
  refine y_get (j := 20) (len := 3) (r := (12, 9, 2, 1337)) (by decide +kernel) hg2052 (t52 hg2052) at52 rfl rfl (g_r52 (f := 9) (T2 := 55) hg2052 rfl (by decide)).1 ?_
  refine y_bi (c := 46) (len := 2) (r := (0, 0, 0, 0)) (by decide +kernel) (by decide) (fun y2053 hy2053 => ?_)
  refine y_same (i := .iload_n 1) (len := 1) (r := (0, 0, 0, 0)) (pc' := 86) (ls' := [some (.inl (some 52)), some (zi x), some (zi xk)]) (st' := [zi x, zi y2053, .inl (some 55)]) (by decide +kernel) (fun k q => by cases q) rfl ?_
  refine y_mul (c := 46) (len := 1) (r := (0, 0, 0, 0)) (by decide +kernel) (by omega) (by omega) (by omega) (fun y2054 hy2054 => ?_)
  refine y_same (i := .dup2) (len := 1) (r := (0, 0, 0, 0)) (pc' := 88) (ls' := [some (.inl (some 52)), some (zi x), some (zi xk)]) (st' := [zi y2054, .inl (some 55), zi y2054, .inl (some 55)]) (by decide +kernel) (fun k q => by cases q) rfl ?_
  have hv2055 := (F2052 55 0 (by omega)).trans hp02048
  refine y_ial (i := 0) (len := 1) (r := (0, 0, 0, 0)) (by decide +kernel) hg2052 (tv55 hg2052) av55 (by omega) hv2055 ?_
  refine y_ic (c := 1) (len := 1) (r := (0, 0, 0, 0)) (by decide +kernel) (by decide) (fun y2056 hy2056 => ?_)
  refine y_sub (len := 1) (r := (0, 0, 0, 0)) (by decide +kernel) (by omega) (by omega) (fun y2057 hy2057 => ?_)
  refine y_ias (i := 0) (len := 1) (r := (0, 0, 0, 0)) (by decide +kernel) hg2052 (tv55 hg2052) av55 rfl (by omega) (by omega) (sr92 _ (by omega)) (by omega) (by omega) (fun h2058 hg2058 hl2058 hs2058 ho2058 => ?_)
  refine y_same (i := .aload_n 0) (len := 1) (r := (0, 0, 0, 0)) (pc' := 93) (ls' := [some (.inl (some 52)), some (zi x), some (zi xk)]) (st' := [.inl (some 52)]) (by decide +kernel) (fun k q => by cases q) rfl ?_
  refine y_get (j := 20) (len := 3) (r := (12, 9, 2, 1337)) (by decide +kernel) hg2058 (t52 hg2058) at52 rfl rfl (g_r52 (f := 9) (T2 := 55) hg2058 rfl (by decide)).1 ?_
  refine y_same (i := .iload_n 1) (len := 1) (r := (0, 0, 0, 0)) (pc' := 97) (ls' := [some (.inl (some 52)), some (zi x), some (zi xk)]) (st' := [zi x, .inl (some 55)]) (by decide +kernel) (fun k q => by cases q) rfl ?_
  refine y_cI (i := .invokestatic 143) (len := 3) (r := (1, 166, 12, 1543)) (nL := 2) (k := 1) (n := 2) (hs := []) (args := [.inl (some 55), zi x]) (rest := []) (l0 := [some (.inl (some 55)), some (zi x)]) (by decide +kernel) (Or.inl ⟨_, rfl⟩) rfl rfl rfl rfl (Nat.le_of_ble_eq_true rfl) rfl rfl (qI_le (by decide) (m_parts (d := 0) (s := 0) hg2058 (by omega) (by omega) hs2058)) (fun y2059 qy2059 hRy2059 => ?_)
  obtain ⟨rfl, rfl⟩ := hRy2059
  refine y_rI (len := 1) (r := (0, 0, 0, 0)) (nL := 3) (k := 1) (n9 := 3) (hs := []) (by decide +kernel) rfl rfl ?_
  have hv2060 := (F2048 52 0 (by omega)).trans hs2030
  have hv2061 := (F2052 52 0 (by omega)).trans hv2060
  have hv2062 := (ho2058 52 0 (Or.inl (by omega))).trans hv2061
  have G : ∀ j, (j ≠ 0 ∧ (j < 2 + 4 * k ∨ 2 + 4 * cur.1.1.length ≤ j)) → hsl h2058 55 j = hsl h2048 55 j := fun j hj => ((ho2058 55 j (by omega))).trans (F2052 55 j (by omega))
  have A : ∀ j, 2 + 4 * k ≤ j → j < 2 + 4 * k + 4 * (cur.1.1.length - k - 1) → hsl h2058 55 j = hsl h2048 55 (j + 4) := fun j h1 h2 => ((ho2058 55 j (by omega))).trans (a2052 j (by omega) (by omega))
  refine ⟨_, hg2058, RM_set rm2048 ⟨sdM_ep rm2048.1.1 hk le2048.1 le2048.2.1 ⟨_, hs2058, by omega⟩ (G _ (by omega)) (fun j h1 h2 => A j (by omega) (by omega)) (fun j hj => G j (by omega)), sdM_to rm2048.1.2 le2048.2.2.1 le2048.2.2.2 (fun j hj => G _ (by omega))⟩ (fun k j hC => ((ho2058 k j (by omega)).trans (F2052 k j (by omega)))), fun k j hC => ((ho2058 k j (by omega)).trans ((F2052 k j (by omega)).trans ((F2048 k j (by omega)).trans (ho2030 k j (by omega))))), by omega, _, hv2062, by omega⟩
theorem m_drop1 {t k : Nat} {τ : List Nat} {h : zh} {cur : bsT} {hs : List bsT} {x xk : Int32} (hg : hG τ h) (rm : RM h cur hs) (hx : x.toInt = 1) (exk : xk.toInt = (k : Int)) (hk : k < cur.2.1.length) : qI 60 190 [some (.inl (some 52)), some (zi x), some (zi xk)] h t (fun y h1 => ∃ τ1, hG τ1 h1 ∧ RM h1 ((cur.1.1, cur.1.2), (cur.2.1.eraseIdx k, cur.2.2)) (psh hs cur) ∧ frM h h1 ∧ y.toInt = ((cur.2.1.length - 1 : Nat) : Int) ∧ ∃ z : Int32, hsl h1 52 0 = some (zi z) ∧ z.toInt = 0) := by
  refine qI_le (d := 21) (by decide) (qI_of ?_)
  have lz := len55 hg rm.1
  obtain ⟨⟨xp0z, hp0z, ep0z⟩, ⟨xc0z, hc0z, ec0z⟩, ip0z, ic0z⟩ := rm.1.1
  obtain ⟨⟨xp1z, hp1z, ep1z⟩, ⟨xc1z, hc1z, ec1z⟩, ip1z, ic1z⟩ := rm.1.2
  refine y_same (i := .aload_n 0) (len := 1) (r := (0, 0, 0, 0)) (pc' := 1) (ls' := [some (.inl (some 52)), some (zi x), some (zi xk)]) (st' := [.inl (some 52)]) (by decide +kernel) (fun k q => by cases q) rfl ?_
  refine y_ic (c := 0) (len := 1) (r := (0, 0, 0, 0)) (by decide +kernel) (by decide) (fun y2094 hy2094 => ?_)
  refine y_put (j := 92) (lo := (-2147483648)) (hi := 2147483647) (len := 3) (r := (12, 0, 0, 1328)) (by decide +kernel) hg (t52 hg) at52 rfl rfl (by decide) rfl (qin_full _).1 (qin_full _).2 rfl (fun h2095 hg2095 hl2095 hs2095 ho2095 => ?_)
  have ho2095 : hO 52 0 h h2095 := ho2095
  have hs2095 : hsl h2095 52 0 = some (zi y2094) := hs2095
  refine y_same (i := .aload_n 0) (len := 1) (r := (0, 0, 0, 0)) (pc' := 6) (ls' := [some (.inl (some 52)), some (zi x), some (zi xk)]) (st' := [.inl (some 52)]) (by decide +kernel) (fun k q => by cases q) rfl ?_
  refine y_same (i := .iload_n 1) (len := 1) (r := (0, 0, 0, 0)) (pc' := 7) (ls' := [some (.inl (some 52)), some (zi x), some (zi xk)]) (st' := [zi x, .inl (some 52)]) (by decide +kernel) (fun k q => by cases q) rfl ?_
  refine y_ic (c := 0) (len := 1) (r := (0, 0, 0, 0)) (by decide +kernel) (by decide) (fun y2096 hy2096 => ?_)
  refine y_ic (c := 1) (len := 1) (r := (0, 0, 0, 0)) (by decide +kernel) (by decide) (fun y2097 hy2097 => ?_)
  refine y_cI (i := .invokestatic 200) (len := 3) (r := (1, 162, 12, 1486)) (nL := 3) (k := 2) (n := 3) (hs := []) (args := [zi x, zi y2096, zi y2097]) (rest := [.inl (some 52)]) (l0 := [some (zi x), some (zi y2096), some (zi y2097)]) (by decide +kernel) (Or.inl ⟨_, rfl⟩) rfl rfl rfl rfl (Nat.le_of_ble_eq_true rfl) rfl rfl (qI_le (by decide) (m_in (d := 0) (by omega) (by omega))) (fun y2098 qy2098 hRy2098 => ?_)
  obtain ⟨rfl, hy2098⟩ := hRy2098
  refine y_iF (c := .eq) (off := 29) (len := 3) (r := (0, 0, 0, 0)) (by decide +kernel) (acmpF (c := .eq) (by show ¬ (_ = _); omega)) ?_
  refine y_same (i := .iload_n 2) (len := 1) (r := (0, 0, 0, 0)) (pc' := 16) (ls' := [some (.inl (some 52)), some (zi x), some (zi xk)]) (st' := [zi xk, .inl (some 52)]) (by decide +kernel) (fun k q => by cases q) rfl ?_
  refine y_ic (c := 0) (len := 1) (r := (0, 0, 0, 0)) (by decide +kernel) (by decide) (fun y2099 hy2099 => ?_)
  refine y_same (i := .aload_n 0) (len := 1) (r := (0, 0, 0, 0)) (pc' := 18) (ls' := [some (.inl (some 52)), some (zi x), some (zi xk)]) (st' := [.inl (some 52), zi y2099, zi xk, .inl (some 52)]) (by decide +kernel) (fun k q => by cases q) rfl ?_
  refine y_get (j := 20) (len := 3) (r := (12, 9, 2, 1337)) (by decide +kernel) hg2095 (t52 hg2095) at52 rfl rfl (g_r52 (f := 9) (T2 := 55) hg2095 rfl (by decide)).1 ?_
  refine y_ic (c := 1) (len := 1) (r := (0, 0, 0, 0)) (by decide +kernel) (by decide) (fun y2100 hy2100 => ?_)
  refine y_ic (c := 0) (len := 1) (r := (0, 0, 0, 0)) (by decide +kernel) (by decide) (fun y2101 hy2101 => ?_)
  refine y_same (i := .iload_n 1) (len := 1) (r := (0, 0, 0, 0)) (pc' := 24) (ls' := [some (.inl (some 52)), some (zi x), some (zi xk)]) (st' := [zi x, zi y2101, zi y2100, .inl (some 55), zi y2099, zi xk, .inl (some 52)]) (by decide +kernel) (fun k q => by cases q) rfl ?_
  refine y_cI (i := .invokestatic 230) (len := 3) (r := (1, 164, 12, 1591)) (nL := 2) (k := 1) (n := 2) (hs := []) (args := [zi y2101, zi x]) (rest := [zi y2100, .inl (some 55), zi y2099, zi xk, .inl (some 52)]) (l0 := [some (zi y2101), some (zi x)]) (by decide +kernel) (Or.inl ⟨_, rfl⟩) rfl rfl rfl rfl (Nat.le_of_ble_eq_true rfl) rfl rfl (qI_le (by decide) (e_more (d := 0))) (fun y2102 qy2102 hRy2102 => ?_)
  obtain ⟨rfl, my2102, ny2102⟩ := hRy2102
  have ey2102 : y2102.toInt = 1 := by omega
  refine y_cI (i := .invokestatic 233) (len := 3) (r := (1, 163, 12, 1594)) (nL := 2) (k := 1) (n := 2) (hs := []) (args := [zi y2100, zi y2102]) (rest := [.inl (some 55), zi y2099, zi xk, .inl (some 52)]) (l0 := [some (zi y2100), some (zi y2102)]) (by decide +kernel) (Or.inl ⟨_, rfl⟩) rfl rfl rfl rfl (Nat.le_of_ble_eq_true rfl) rfl rfl (qI_le (by decide) (e_less (d := 0))) (fun y2103 qy2103 hRy2103 => ?_)
  obtain ⟨rfl, my2103, ny2103⟩ := hRy2103
  have ey2103 : y2103.toInt = 1 := by omega
  have hv2105 := (ho2095 55 46 (Or.inl (by omega))).trans hp1z
  refine y_cI (i := .invokestatic 143) (len := 3) (r := (1, 166, 12, 1543)) (nL := 2) (k := 1) (n := 2) (hs := []) (args := [.inl (some 55), zi y2103]) (rest := [zi y2099, zi xk, .inl (some 52)]) (l0 := [some (.inl (some 55)), some (zi y2103)]) (by decide +kernel) (Or.inl ⟨_, rfl⟩) rfl rfl rfl rfl (Nat.le_of_ble_eq_true rfl) rfl rfl (qI_le (by decide) (m_parts (d := 0) (s := 1) hg2095 (by omega) (by omega) hv2105)) (fun y2104 qy2104 hRy2104 => ?_)
  obtain ⟨rfl, rfl⟩ := hRy2104
  refine y_ic (c := 1) (len := 1) (r := (0, 0, 0, 0)) (by decide +kernel) (by decide) (fun y2106 hy2106 => ?_)
  refine y_sub (len := 1) (r := (0, 0, 0, 0)) (by decide +kernel) (by omega) (by omega) (fun y2107 hy2107 => ?_)
  refine y_cI (i := .invokestatic 200) (len := 3) (r := (1, 162, 12, 1486)) (nL := 3) (k := 2) (n := 3) (hs := []) (args := [zi xk, zi y2099, zi y2107]) (rest := [.inl (some 52)]) (l0 := [some (zi xk), some (zi y2099), some (zi y2107)]) (by decide +kernel) (Or.inl ⟨_, rfl⟩) rfl rfl rfl rfl (Nat.le_of_ble_eq_true rfl) rfl rfl (qI_le (by decide) (m_in (d := 0) (by omega) (by omega))) (fun y2108 qy2108 hRy2108 => ?_)
  obtain ⟨rfl, hy2108⟩ := hRy2108
  refine y_iT (c := .ne) (off := 7) (pc' := 45) (len := 3) (r := (0, 0, 0, 0)) (by decide +kernel) (acmpT (c := .ne) (by show ¬ (_ = _); omega)) (by decide +kernel) ?_
  refine y_ic (c := 0) (len := 1) (r := (0, 0, 0, 0)) (by decide +kernel) (by decide) (fun y2109 hy2109 => ?_)
  refine y_ic (c := 1) (len := 1) (r := (0, 0, 0, 0)) (by decide +kernel) (by decide) (fun y2110 hy2110 => ?_)
  refine y_ic (c := 0) (len := 1) (r := (0, 0, 0, 0)) (by decide +kernel) (by decide) (fun y2111 hy2111 => ?_)
  refine y_cI (i := .invokevirtual 204) (len := 3) (r := (0, 161, 12, 1489)) (nL := 4) (k := 2) (n := 4) (hs := []) (args := [.inl (some 52), zi y2109, zi y2110, zi y2111]) (rest := []) (l0 := [some (.inl (some 52)), some (zi y2109), some (zi y2110), some (zi y2111)]) (by decide +kernel) (Or.inr (Or.inl ⟨_, rfl⟩)) rfl rfl rfl rfl (Nat.le_of_ble_eq_true rfl) (z52 hg2095) rfl (qI_le (by decide) (m_bad (d := 0) hg2095 (by omega) hs2095 (by omega))) (fun y2112 qy2112 hRy2112 => ?_)
  obtain ⟨rfl, hy2112⟩ := hRy2112
  refine y_iT (c := .eq) (off := 5) (pc' := 56) (len := 3) (r := (0, 0, 0, 0)) (by decide +kernel) (acmpT (c := .eq) (by show _ = _; omega)) (by decide +kernel) ?_
  refine y_same (i := .aload_n 0) (len := 1) (r := (0, 0, 0, 0)) (pc' := 57) (ls' := [some (.inl (some 52)), some (zi x), some (zi xk)]) (st' := [.inl (some 52)]) (by decide +kernel) (fun k q => by cases q) rfl ?_
  refine y_cV (i := .invokevirtual 213) (len := 3) (r := (0, 186, 12, 1568)) (nL := 2) (k := 0) (n := 1) (hs := []) (args := [.inl (some 52)]) (rest := []) (l0 := [some (.inl (some 52)), none]) (by decide +kernel) (Or.inr (Or.inl ⟨_, rfl⟩)) rfl rfl rfl rfl (Nat.le_of_ble_eq_true rfl) (z52 hg2095) rfl (qV_le (by decide) (m_rem hg2095 (RM_up rm (fun k j h1 => (ho2095 k j (by omega)))))) (fun h2113 hR2113 => ?_)
  obtain ⟨hg2113, rm2113, F2113⟩ := hR2113
  have le2113 := len55 hg2113 rm2113.1
  obtain ⟨⟨xp02113, hp02113, ep02113⟩, ⟨xc02113, hc02113, ec02113⟩, ip02113, ic02113⟩ := rm2113.1.1
  obtain ⟨⟨xp12113, hp12113, ep12113⟩, ⟨xc12113, hc12113, ec12113⟩, ip12113, ic12113⟩ := rm2113.1.2
  refine y_same (i := .aload_n 0) (len := 1) (r := (0, 0, 0, 0)) (pc' := 61) (ls' := [some (.inl (some 52)), some (zi x), some (zi xk)]) (st' := [.inl (some 52)]) (by decide +kernel) (fun k q => by cases q) rfl ?_
  refine y_same (i := .iload_n 1) (len := 1) (r := (0, 0, 0, 0)) (pc' := 62) (ls' := [some (.inl (some 52)), some (zi x), some (zi xk)]) (st' := [zi x, .inl (some 52)]) (by decide +kernel) (fun k q => by cases q) rfl ?_
  refine y_same (i := .iload_n 2) (len := 1) (r := (0, 0, 0, 0)) (pc' := 63) (ls' := [some (.inl (some 52)), some (zi x), some (zi xk)]) (st' := [zi xk, zi x, .inl (some 52)]) (by decide +kernel) (fun k q => by cases q) rfl ?_
  refine y_cI (i := .invokestatic 147) (len := 3) (r := (1, 168, 12, 1546)) (nL := 2) (k := 1) (n := 2) (hs := []) (args := [zi x, zi xk]) (rest := [.inl (some 52)]) (l0 := [some (zi x), some (zi xk)]) (by decide +kernel) (Or.inl ⟨_, rfl⟩) rfl rfl rfl rfl (Nat.le_of_ble_eq_true rfl) rfl rfl (qI_le (by decide) (m_partAt (d := 0) (s := 1) (k := k) (by omega) (by omega) exk (by omega))) (fun y2114 qy2114 hRy2114 => ?_)
  obtain ⟨rfl, hy2114⟩ := hRy2114
  refine y_same (i := .aload_n 0) (len := 1) (r := (0, 0, 0, 0)) (pc' := 67) (ls' := [some (.inl (some 52)), some (zi x), some (zi xk)]) (st' := [.inl (some 52), zi y2114, .inl (some 52)]) (by decide +kernel) (fun k q => by cases q) rfl ?_
  refine y_get (j := 20) (len := 3) (r := (12, 9, 2, 1337)) (by decide +kernel) hg2113 (t52 hg2113) at52 rfl rfl (g_r52 (f := 9) (T2 := 55) hg2113 rfl (by decide)).1 ?_
  refine y_same (i := .iload_n 1) (len := 1) (r := (0, 0, 0, 0)) (pc' := 71) (ls' := [some (.inl (some 52)), some (zi x), some (zi xk)]) (st' := [zi x, .inl (some 55), zi y2114, .inl (some 52)]) (by decide +kernel) (fun k q => by cases q) rfl ?_
  refine y_cI (i := .invokestatic 143) (len := 3) (r := (1, 166, 12, 1543)) (nL := 2) (k := 1) (n := 2) (hs := []) (args := [.inl (some 55), zi x]) (rest := [zi y2114, .inl (some 52)]) (l0 := [some (.inl (some 55)), some (zi x)]) (by decide +kernel) (Or.inl ⟨_, rfl⟩) rfl rfl rfl rfl (Nat.le_of_ble_eq_true rfl) rfl rfl (qI_le (by decide) (m_parts (d := 0) (s := 1) hg2113 (by omega) (by omega) hp12113)) (fun y2115 qy2115 hRy2115 => ?_)
  obtain ⟨rfl, rfl⟩ := hRy2115
  refine y_same (i := .iload_n 2) (len := 1) (r := (0, 0, 0, 0)) (pc' := 75) (ls' := [some (.inl (some 52)), some (zi x), some (zi xk)]) (st' := [zi xk, zi xp12113, zi y2114, .inl (some 52)]) (by decide +kernel) (fun k q => by cases q) rfl ?_
  refine y_sub (len := 1) (r := (0, 0, 0, 0)) (by decide +kernel) (by omega) (by omega) (fun y2116 hy2116 => ?_)
  refine y_cV (i := .invokevirtual 236) (len := 3) (r := (0, 189, 12, 1597)) (nL := 4) (k := 0) (n := 3) (hs := []) (args := [.inl (some 52), zi y2114, zi y2116]) (rest := []) (l0 := [some (.inl (some 52)), some (zi y2114), some (zi y2116), none]) (by decide +kernel) (Or.inr (Or.inl ⟨_, rfl⟩)) rfl rfl rfl rfl (Nat.le_of_ble_eq_true rfl) (z52 hg2113) rfl (qV_le (by decide) (m_closes (f := (48 + 4 * k)) (m := (cur.2.1.length - k)) hg2113 (by omega) (by omega) (by omega) (by omega))) (fun h2117 hR2117 => ?_)
  obtain ⟨hg2117, a2117, F2117⟩ := hR2117
  refine y_same (i := .aload_n 0) (len := 1) (r := (0, 0, 0, 0)) (pc' := 80) (ls' := [some (.inl (some 52)), some (zi x), some (zi xk)]) (st' := [.inl (some 52)]) (by decide +kernel) (fun k q => by cases q) rfl ?_
  refine y_get (j := 20) (len := 3) (r := (12, 9, 2, 1337)) (by decide +kernel) hg2117 (t52 hg2117) at52 rfl rfl (g_r52 (f := 9) (T2 := 55) hg2117 rfl (by decide)).1 ?_
  refine y_bi (c := 46) (len := 2) (r := (0, 0, 0, 0)) (by decide +kernel) (by decide) (fun y2118 hy2118 => ?_)
  refine y_same (i := .iload_n 1) (len := 1) (r := (0, 0, 0, 0)) (pc' := 86) (ls' := [some (.inl (some 52)), some (zi x), some (zi xk)]) (st' := [zi x, zi y2118, .inl (some 55)]) (by decide +kernel) (fun k q => by cases q) rfl ?_
  refine y_mul (c := 46) (len := 1) (r := (0, 0, 0, 0)) (by decide +kernel) (by omega) (by omega) (by omega) (fun y2119 hy2119 => ?_)
  refine y_same (i := .dup2) (len := 1) (r := (0, 0, 0, 0)) (pc' := 88) (ls' := [some (.inl (some 52)), some (zi x), some (zi xk)]) (st' := [zi y2119, .inl (some 55), zi y2119, .inl (some 55)]) (by decide +kernel) (fun k q => by cases q) rfl ?_
  have hv2120 := (F2117 55 46 (by omega)).trans hp12113
  refine y_ial (i := 46) (len := 1) (r := (0, 0, 0, 0)) (by decide +kernel) hg2117 (tv55 hg2117) av55 (by omega) hv2120 ?_
  refine y_ic (c := 1) (len := 1) (r := (0, 0, 0, 0)) (by decide +kernel) (by decide) (fun y2121 hy2121 => ?_)
  refine y_sub (len := 1) (r := (0, 0, 0, 0)) (by decide +kernel) (by omega) (by omega) (fun y2122 hy2122 => ?_)
  refine y_ias (i := 46) (len := 1) (r := (0, 0, 0, 0)) (by decide +kernel) hg2117 (tv55 hg2117) av55 rfl (by omega) (by omega) (sr92 _ (by omega)) (by omega) (by omega) (fun h2123 hg2123 hl2123 hs2123 ho2123 => ?_)
  refine y_same (i := .aload_n 0) (len := 1) (r := (0, 0, 0, 0)) (pc' := 93) (ls' := [some (.inl (some 52)), some (zi x), some (zi xk)]) (st' := [.inl (some 52)]) (by decide +kernel) (fun k q => by cases q) rfl ?_
  refine y_get (j := 20) (len := 3) (r := (12, 9, 2, 1337)) (by decide +kernel) hg2123 (t52 hg2123) at52 rfl rfl (g_r52 (f := 9) (T2 := 55) hg2123 rfl (by decide)).1 ?_
  refine y_same (i := .iload_n 1) (len := 1) (r := (0, 0, 0, 0)) (pc' := 97) (ls' := [some (.inl (some 52)), some (zi x), some (zi xk)]) (st' := [zi x, .inl (some 55)]) (by decide +kernel) (fun k q => by cases q) rfl ?_
  refine y_cI (i := .invokestatic 143) (len := 3) (r := (1, 166, 12, 1543)) (nL := 2) (k := 1) (n := 2) (hs := []) (args := [.inl (some 55), zi x]) (rest := []) (l0 := [some (.inl (some 55)), some (zi x)]) (by decide +kernel) (Or.inl ⟨_, rfl⟩) rfl rfl rfl rfl (Nat.le_of_ble_eq_true rfl) rfl rfl (qI_le (by decide) (m_parts (d := 0) (s := 1) hg2123 (by omega) (by omega) hs2123)) (fun y2124 qy2124 hRy2124 => ?_)
  obtain ⟨rfl, rfl⟩ := hRy2124
  refine y_rI (len := 1) (r := (0, 0, 0, 0)) (nL := 3) (k := 1) (n9 := 3) (hs := []) (by decide +kernel) rfl rfl ?_
  have hv2125 := (F2113 52 0 (by omega)).trans hs2095
  have hv2126 := (F2117 52 0 (by omega)).trans hv2125
  have hv2127 := (ho2123 52 0 (Or.inl (by omega))).trans hv2126
  have G : ∀ j, (j ≠ 46 ∧ (j < 48 + 4 * k ∨ 48 + 4 * cur.2.1.length ≤ j)) → hsl h2123 55 j = hsl h2113 55 j := fun j hj => ((ho2123 55 j (by omega))).trans (F2117 55 j (by omega))
  have A : ∀ j, 48 + 4 * k ≤ j → j < 48 + 4 * k + 4 * (cur.2.1.length - k - 1) → hsl h2123 55 j = hsl h2113 55 (j + 4) := fun j h1 h2 => ((ho2123 55 j (by omega))).trans (a2117 j (by omega) (by omega))
  refine ⟨_, hg2123, RM_set rm2113 ⟨sdM_to rm2113.1.1 le2113.1 le2113.2.1 (fun j hj => G _ (by omega)), sdM_ep rm2113.1.2 hk le2113.2.2.1 le2113.2.2.2 ⟨_, hs2123, by omega⟩ (G _ (by omega)) (fun j h1 h2 => A j (by omega) (by omega)) (fun j hj => G j (by omega))⟩ (fun k j hC => ((ho2123 k j (by omega)).trans (F2117 k j (by omega)))), fun k j hC => ((ho2123 k j (by omega)).trans ((F2117 k j (by omega)).trans ((F2113 k j (by omega)).trans (ho2095 k j (by omega))))), by omega, _, hv2127, by omega⟩
theorem m_dropT0 {t : Nat} {τ : List Nat} {h : zh} {cur : bsT} {hs : List bsT} {x xk : Int32} (hg : hG τ h) (rm : RM h cur hs) (hx : x.toInt = 0) (hk : ¬ (0 ≤ xk.toInt ∧ xk.toInt < (cur.1.1.length : Int))) : qI 60 190 [some (.inl (some 52)), some (zi x), some (zi xk)] h t (fun y h1 => ∃ τ1, hG τ1 h1 ∧ RM h1 cur hs ∧ frM h h1 ∧ ∃ z : Int32, hsl h1 52 0 = some (zi z) ∧ z.toInt = 1) := by
  refine qI_le (d := 21) (by decide) (qI_of ?_)
  have lz := len55 hg rm.1
  obtain ⟨⟨xp0z, hp0z, ep0z⟩, ⟨xc0z, hc0z, ec0z⟩, ip0z, ic0z⟩ := rm.1.1
  obtain ⟨⟨xp1z, hp1z, ep1z⟩, ⟨xc1z, hc1z, ec1z⟩, ip1z, ic1z⟩ := rm.1.2
  refine y_same (i := .aload_n 0) (len := 1) (r := (0, 0, 0, 0)) (pc' := 1) (ls' := [some (.inl (some 52)), some (zi x), some (zi xk)]) (st' := [.inl (some 52)]) (by decide +kernel) (fun k q => by cases q) rfl ?_
  refine y_ic (c := 0) (len := 1) (r := (0, 0, 0, 0)) (by decide +kernel) (by decide) (fun y2128 hy2128 => ?_)
  refine y_put (j := 92) (lo := (-2147483648)) (hi := 2147483647) (len := 3) (r := (12, 0, 0, 1328)) (by decide +kernel) hg (t52 hg) at52 rfl rfl (by decide) rfl (qin_full _).1 (qin_full _).2 rfl (fun h2129 hg2129 hl2129 hs2129 ho2129 => ?_)
  have ho2129 : hO 52 0 h h2129 := ho2129
  have hs2129 : hsl h2129 52 0 = some (zi y2128) := hs2129
  refine y_same (i := .aload_n 0) (len := 1) (r := (0, 0, 0, 0)) (pc' := 6) (ls' := [some (.inl (some 52)), some (zi x), some (zi xk)]) (st' := [.inl (some 52)]) (by decide +kernel) (fun k q => by cases q) rfl ?_
  refine y_same (i := .iload_n 1) (len := 1) (r := (0, 0, 0, 0)) (pc' := 7) (ls' := [some (.inl (some 52)), some (zi x), some (zi xk)]) (st' := [zi x, .inl (some 52)]) (by decide +kernel) (fun k q => by cases q) rfl ?_
  refine y_ic (c := 0) (len := 1) (r := (0, 0, 0, 0)) (by decide +kernel) (by decide) (fun y2130 hy2130 => ?_)
  refine y_ic (c := 1) (len := 1) (r := (0, 0, 0, 0)) (by decide +kernel) (by decide) (fun y2131 hy2131 => ?_)
  refine y_cI (i := .invokestatic 200) (len := 3) (r := (1, 162, 12, 1486)) (nL := 3) (k := 2) (n := 3) (hs := []) (args := [zi x, zi y2130, zi y2131]) (rest := [.inl (some 52)]) (l0 := [some (zi x), some (zi y2130), some (zi y2131)]) (by decide +kernel) (Or.inl ⟨_, rfl⟩) rfl rfl rfl rfl (Nat.le_of_ble_eq_true rfl) rfl rfl (qI_le (by decide) (m_in (d := 0) (by omega) (by omega))) (fun y2132 qy2132 hRy2132 => ?_)
  obtain ⟨rfl, hy2132⟩ := hRy2132
  refine y_iF (c := .eq) (off := 29) (len := 3) (r := (0, 0, 0, 0)) (by decide +kernel) (acmpF (c := .eq) (by show ¬ (_ = _); omega)) ?_
  refine y_same (i := .iload_n 2) (len := 1) (r := (0, 0, 0, 0)) (pc' := 16) (ls' := [some (.inl (some 52)), some (zi x), some (zi xk)]) (st' := [zi xk, .inl (some 52)]) (by decide +kernel) (fun k q => by cases q) rfl ?_
  refine y_ic (c := 0) (len := 1) (r := (0, 0, 0, 0)) (by decide +kernel) (by decide) (fun y2133 hy2133 => ?_)
  refine y_same (i := .aload_n 0) (len := 1) (r := (0, 0, 0, 0)) (pc' := 18) (ls' := [some (.inl (some 52)), some (zi x), some (zi xk)]) (st' := [.inl (some 52), zi y2133, zi xk, .inl (some 52)]) (by decide +kernel) (fun k q => by cases q) rfl ?_
  refine y_get (j := 20) (len := 3) (r := (12, 9, 2, 1337)) (by decide +kernel) hg2129 (t52 hg2129) at52 rfl rfl (g_r52 (f := 9) (T2 := 55) hg2129 rfl (by decide)).1 ?_
  refine y_ic (c := 1) (len := 1) (r := (0, 0, 0, 0)) (by decide +kernel) (by decide) (fun y2134 hy2134 => ?_)
  refine y_ic (c := 0) (len := 1) (r := (0, 0, 0, 0)) (by decide +kernel) (by decide) (fun y2135 hy2135 => ?_)
  refine y_same (i := .iload_n 1) (len := 1) (r := (0, 0, 0, 0)) (pc' := 24) (ls' := [some (.inl (some 52)), some (zi x), some (zi xk)]) (st' := [zi x, zi y2135, zi y2134, .inl (some 55), zi y2133, zi xk, .inl (some 52)]) (by decide +kernel) (fun k q => by cases q) rfl ?_
  refine y_cI (i := .invokestatic 230) (len := 3) (r := (1, 164, 12, 1591)) (nL := 2) (k := 1) (n := 2) (hs := []) (args := [zi y2135, zi x]) (rest := [zi y2134, .inl (some 55), zi y2133, zi xk, .inl (some 52)]) (l0 := [some (zi y2135), some (zi x)]) (by decide +kernel) (Or.inl ⟨_, rfl⟩) rfl rfl rfl rfl (Nat.le_of_ble_eq_true rfl) rfl rfl (qI_le (by decide) (e_more (d := 0))) (fun y2136 qy2136 hRy2136 => ?_)
  obtain ⟨rfl, my2136, ny2136⟩ := hRy2136
  have ey2136 : y2136.toInt = 0 := by omega
  refine y_cI (i := .invokestatic 233) (len := 3) (r := (1, 163, 12, 1594)) (nL := 2) (k := 1) (n := 2) (hs := []) (args := [zi y2134, zi y2136]) (rest := [.inl (some 55), zi y2133, zi xk, .inl (some 52)]) (l0 := [some (zi y2134), some (zi y2136)]) (by decide +kernel) (Or.inl ⟨_, rfl⟩) rfl rfl rfl rfl (Nat.le_of_ble_eq_true rfl) rfl rfl (qI_le (by decide) (e_less (d := 0))) (fun y2137 qy2137 hRy2137 => ?_)
  obtain ⟨rfl, my2137, ny2137⟩ := hRy2137
  have ey2137 : y2137.toInt = 0 := by omega
  have hv2139 := (ho2129 55 0 (Or.inl (by omega))).trans hp0z
  refine y_cI (i := .invokestatic 143) (len := 3) (r := (1, 166, 12, 1543)) (nL := 2) (k := 1) (n := 2) (hs := []) (args := [.inl (some 55), zi y2137]) (rest := [zi y2133, zi xk, .inl (some 52)]) (l0 := [some (.inl (some 55)), some (zi y2137)]) (by decide +kernel) (Or.inl ⟨_, rfl⟩) rfl rfl rfl rfl (Nat.le_of_ble_eq_true rfl) rfl rfl (qI_le (by decide) (m_parts (d := 0) (s := 0) hg2129 (by omega) (by omega) hv2139)) (fun y2138 qy2138 hRy2138 => ?_)
  obtain ⟨rfl, rfl⟩ := hRy2138
  refine y_ic (c := 1) (len := 1) (r := (0, 0, 0, 0)) (by decide +kernel) (by decide) (fun y2140 hy2140 => ?_)
  refine y_sub (len := 1) (r := (0, 0, 0, 0)) (by decide +kernel) (by omega) (by omega) (fun y2141 hy2141 => ?_)
  refine y_cI (i := .invokestatic 200) (len := 3) (r := (1, 162, 12, 1486)) (nL := 3) (k := 2) (n := 3) (hs := []) (args := [zi xk, zi y2133, zi y2141]) (rest := [.inl (some 52)]) (l0 := [some (zi xk), some (zi y2133), some (zi y2141)]) (by decide +kernel) (Or.inl ⟨_, rfl⟩) rfl rfl rfl rfl (Nat.le_of_ble_eq_true rfl) rfl rfl (qI_le (by decide) (m_in0 (d := 0) (by omega))) (fun y2142 qy2142 hRy2142 => ?_)
  obtain ⟨rfl, hy2142⟩ := hRy2142
  refine y_iF (c := .ne) (off := 7) (len := 3) (r := (0, 0, 0, 0)) (by decide +kernel) (acmpF (c := .ne) (by show _ = _; omega)) ?_
  refine y_ic (c := 1) (len := 1) (r := (0, 0, 0, 0)) (by decide +kernel) (by decide) (fun y2143 hy2143 => ?_)
  refine y_goto (off := 4) (pc' := 46) (len := 3) (r := (0, 0, 0, 0)) (by decide +kernel) (by decide +kernel) ?_
  refine y_ic (c := 1) (len := 1) (r := (0, 0, 0, 0)) (by decide +kernel) (by decide) (fun y2144 hy2144 => ?_)
  refine y_ic (c := 0) (len := 1) (r := (0, 0, 0, 0)) (by decide +kernel) (by decide) (fun y2145 hy2145 => ?_)
  refine y_cI (i := .invokevirtual 204) (len := 3) (r := (0, 161, 12, 1489)) (nL := 4) (k := 2) (n := 4) (hs := []) (args := [.inl (some 52), zi y2143, zi y2144, zi y2145]) (rest := []) (l0 := [some (.inl (some 52)), some (zi y2143), some (zi y2144), some (zi y2145)]) (by decide +kernel) (Or.inr (Or.inl ⟨_, rfl⟩)) rfl rfl rfl rfl (Nat.le_of_ble_eq_true rfl) (z52 hg2129) rfl (qI_le (by decide) (m_bad1 (d := 0) (e := 0) hg2129 (by omega) (by omega) (by omega) (by omega) hs2129 (by omega))) (fun y2146 h2146 hRy2146 => ?_)
  obtain ⟨hg2146, hy2146, ⟨z2146, hz2146, ez2146⟩, F2146⟩ := hRy2146
  refine y_iF (c := .eq) (off := 5) (len := 3) (r := (0, 0, 0, 0)) (by decide +kernel) (acmpF (c := .eq) (by show ¬ (_ = _); omega)) ?_
  refine y_ic (c := 0) (len := 1) (r := (0, 0, 0, 0)) (by decide +kernel) (by decide) (fun y2147 hy2147 => ?_)
  refine y_rI (len := 1) (r := (0, 0, 0, 0)) (nL := 3) (k := 1) (n9 := 3) (hs := []) (by decide +kernel) rfl rfl ?_
  exact ⟨_, hg2146, RM_up rm (fun k j hC => ((F2146 k j (by omega)).trans (ho2129 k j (by omega)))), fun k j hC => ((F2146 k j (by omega)).trans (ho2129 k j (by omega))), _, hz2146, by omega⟩
theorem m_dropT1 {t : Nat} {τ : List Nat} {h : zh} {cur : bsT} {hs : List bsT} {x xk : Int32} (hg : hG τ h) (rm : RM h cur hs) (hx : x.toInt = 1) (hk : ¬ (0 ≤ xk.toInt ∧ xk.toInt < (cur.2.1.length : Int))) : qI 60 190 [some (.inl (some 52)), some (zi x), some (zi xk)] h t (fun y h1 => ∃ τ1, hG τ1 h1 ∧ RM h1 cur hs ∧ frM h h1 ∧ ∃ z : Int32, hsl h1 52 0 = some (zi z) ∧ z.toInt = 1) := by
  refine qI_le (d := 21) (by decide) (qI_of ?_)
  have lz := len55 hg rm.1
  obtain ⟨⟨xp0z, hp0z, ep0z⟩, ⟨xc0z, hc0z, ec0z⟩, ip0z, ic0z⟩ := rm.1.1
  obtain ⟨⟨xp1z, hp1z, ep1z⟩, ⟨xc1z, hc1z, ec1z⟩, ip1z, ic1z⟩ := rm.1.2
  refine y_same (i := .aload_n 0) (len := 1) (r := (0, 0, 0, 0)) (pc' := 1) (ls' := [some (.inl (some 52)), some (zi x), some (zi xk)]) (st' := [.inl (some 52)]) (by decide +kernel) (fun k q => by cases q) rfl ?_
  refine y_ic (c := 0) (len := 1) (r := (0, 0, 0, 0)) (by decide +kernel) (by decide) (fun y2148 hy2148 => ?_)
  refine y_put (j := 92) (lo := (-2147483648)) (hi := 2147483647) (len := 3) (r := (12, 0, 0, 1328)) (by decide +kernel) hg (t52 hg) at52 rfl rfl (by decide) rfl (qin_full _).1 (qin_full _).2 rfl (fun h2149 hg2149 hl2149 hs2149 ho2149 => ?_)
  have ho2149 : hO 52 0 h h2149 := ho2149
  have hs2149 : hsl h2149 52 0 = some (zi y2148) := hs2149
  refine y_same (i := .aload_n 0) (len := 1) (r := (0, 0, 0, 0)) (pc' := 6) (ls' := [some (.inl (some 52)), some (zi x), some (zi xk)]) (st' := [.inl (some 52)]) (by decide +kernel) (fun k q => by cases q) rfl ?_
  refine y_same (i := .iload_n 1) (len := 1) (r := (0, 0, 0, 0)) (pc' := 7) (ls' := [some (.inl (some 52)), some (zi x), some (zi xk)]) (st' := [zi x, .inl (some 52)]) (by decide +kernel) (fun k q => by cases q) rfl ?_
  refine y_ic (c := 0) (len := 1) (r := (0, 0, 0, 0)) (by decide +kernel) (by decide) (fun y2150 hy2150 => ?_)
  refine y_ic (c := 1) (len := 1) (r := (0, 0, 0, 0)) (by decide +kernel) (by decide) (fun y2151 hy2151 => ?_)
  refine y_cI (i := .invokestatic 200) (len := 3) (r := (1, 162, 12, 1486)) (nL := 3) (k := 2) (n := 3) (hs := []) (args := [zi x, zi y2150, zi y2151]) (rest := [.inl (some 52)]) (l0 := [some (zi x), some (zi y2150), some (zi y2151)]) (by decide +kernel) (Or.inl ⟨_, rfl⟩) rfl rfl rfl rfl (Nat.le_of_ble_eq_true rfl) rfl rfl (qI_le (by decide) (m_in (d := 0) (by omega) (by omega))) (fun y2152 qy2152 hRy2152 => ?_)
  obtain ⟨rfl, hy2152⟩ := hRy2152
  refine y_iF (c := .eq) (off := 29) (len := 3) (r := (0, 0, 0, 0)) (by decide +kernel) (acmpF (c := .eq) (by show ¬ (_ = _); omega)) ?_
  refine y_same (i := .iload_n 2) (len := 1) (r := (0, 0, 0, 0)) (pc' := 16) (ls' := [some (.inl (some 52)), some (zi x), some (zi xk)]) (st' := [zi xk, .inl (some 52)]) (by decide +kernel) (fun k q => by cases q) rfl ?_
  refine y_ic (c := 0) (len := 1) (r := (0, 0, 0, 0)) (by decide +kernel) (by decide) (fun y2153 hy2153 => ?_)
  refine y_same (i := .aload_n 0) (len := 1) (r := (0, 0, 0, 0)) (pc' := 18) (ls' := [some (.inl (some 52)), some (zi x), some (zi xk)]) (st' := [.inl (some 52), zi y2153, zi xk, .inl (some 52)]) (by decide +kernel) (fun k q => by cases q) rfl ?_
  refine y_get (j := 20) (len := 3) (r := (12, 9, 2, 1337)) (by decide +kernel) hg2149 (t52 hg2149) at52 rfl rfl (g_r52 (f := 9) (T2 := 55) hg2149 rfl (by decide)).1 ?_
  refine y_ic (c := 1) (len := 1) (r := (0, 0, 0, 0)) (by decide +kernel) (by decide) (fun y2154 hy2154 => ?_)
  refine y_ic (c := 0) (len := 1) (r := (0, 0, 0, 0)) (by decide +kernel) (by decide) (fun y2155 hy2155 => ?_)
  refine y_same (i := .iload_n 1) (len := 1) (r := (0, 0, 0, 0)) (pc' := 24) (ls' := [some (.inl (some 52)), some (zi x), some (zi xk)]) (st' := [zi x, zi y2155, zi y2154, .inl (some 55), zi y2153, zi xk, .inl (some 52)]) (by decide +kernel) (fun k q => by cases q) rfl ?_
  refine y_cI (i := .invokestatic 230) (len := 3) (r := (1, 164, 12, 1591)) (nL := 2) (k := 1) (n := 2) (hs := []) (args := [zi y2155, zi x]) (rest := [zi y2154, .inl (some 55), zi y2153, zi xk, .inl (some 52)]) (l0 := [some (zi y2155), some (zi x)]) (by decide +kernel) (Or.inl ⟨_, rfl⟩) rfl rfl rfl rfl (Nat.le_of_ble_eq_true rfl) rfl rfl (qI_le (by decide) (e_more (d := 0))) (fun y2156 qy2156 hRy2156 => ?_)
  obtain ⟨rfl, my2156, ny2156⟩ := hRy2156
  have ey2156 : y2156.toInt = 1 := by omega
  refine y_cI (i := .invokestatic 233) (len := 3) (r := (1, 163, 12, 1594)) (nL := 2) (k := 1) (n := 2) (hs := []) (args := [zi y2154, zi y2156]) (rest := [.inl (some 55), zi y2153, zi xk, .inl (some 52)]) (l0 := [some (zi y2154), some (zi y2156)]) (by decide +kernel) (Or.inl ⟨_, rfl⟩) rfl rfl rfl rfl (Nat.le_of_ble_eq_true rfl) rfl rfl (qI_le (by decide) (e_less (d := 0))) (fun y2157 qy2157 hRy2157 => ?_)
  obtain ⟨rfl, my2157, ny2157⟩ := hRy2157
  have ey2157 : y2157.toInt = 1 := by omega
  have hv2159 := (ho2149 55 46 (Or.inl (by omega))).trans hp1z
  refine y_cI (i := .invokestatic 143) (len := 3) (r := (1, 166, 12, 1543)) (nL := 2) (k := 1) (n := 2) (hs := []) (args := [.inl (some 55), zi y2157]) (rest := [zi y2153, zi xk, .inl (some 52)]) (l0 := [some (.inl (some 55)), some (zi y2157)]) (by decide +kernel) (Or.inl ⟨_, rfl⟩) rfl rfl rfl rfl (Nat.le_of_ble_eq_true rfl) rfl rfl (qI_le (by decide) (m_parts (d := 0) (s := 1) hg2149 (by omega) (by omega) hv2159)) (fun y2158 qy2158 hRy2158 => ?_)
  obtain ⟨rfl, rfl⟩ := hRy2158
  refine y_ic (c := 1) (len := 1) (r := (0, 0, 0, 0)) (by decide +kernel) (by decide) (fun y2160 hy2160 => ?_)
  refine y_sub (len := 1) (r := (0, 0, 0, 0)) (by decide +kernel) (by omega) (by omega) (fun y2161 hy2161 => ?_)
  refine y_cI (i := .invokestatic 200) (len := 3) (r := (1, 162, 12, 1486)) (nL := 3) (k := 2) (n := 3) (hs := []) (args := [zi xk, zi y2153, zi y2161]) (rest := [.inl (some 52)]) (l0 := [some (zi xk), some (zi y2153), some (zi y2161)]) (by decide +kernel) (Or.inl ⟨_, rfl⟩) rfl rfl rfl rfl (Nat.le_of_ble_eq_true rfl) rfl rfl (qI_le (by decide) (m_in0 (d := 0) (by omega))) (fun y2162 qy2162 hRy2162 => ?_)
  obtain ⟨rfl, hy2162⟩ := hRy2162
  refine y_iF (c := .ne) (off := 7) (len := 3) (r := (0, 0, 0, 0)) (by decide +kernel) (acmpF (c := .ne) (by show _ = _; omega)) ?_
  refine y_ic (c := 1) (len := 1) (r := (0, 0, 0, 0)) (by decide +kernel) (by decide) (fun y2163 hy2163 => ?_)
  refine y_goto (off := 4) (pc' := 46) (len := 3) (r := (0, 0, 0, 0)) (by decide +kernel) (by decide +kernel) ?_
  refine y_ic (c := 1) (len := 1) (r := (0, 0, 0, 0)) (by decide +kernel) (by decide) (fun y2164 hy2164 => ?_)
  refine y_ic (c := 0) (len := 1) (r := (0, 0, 0, 0)) (by decide +kernel) (by decide) (fun y2165 hy2165 => ?_)
  refine y_cI (i := .invokevirtual 204) (len := 3) (r := (0, 161, 12, 1489)) (nL := 4) (k := 2) (n := 4) (hs := []) (args := [.inl (some 52), zi y2163, zi y2164, zi y2165]) (rest := []) (l0 := [some (.inl (some 52)), some (zi y2163), some (zi y2164), some (zi y2165)]) (by decide +kernel) (Or.inr (Or.inl ⟨_, rfl⟩)) rfl rfl rfl rfl (Nat.le_of_ble_eq_true rfl) (z52 hg2149) rfl (qI_le (by decide) (m_bad1 (d := 0) (e := 0) hg2149 (by omega) (by omega) (by omega) (by omega) hs2149 (by omega))) (fun y2166 h2166 hRy2166 => ?_)
  obtain ⟨hg2166, hy2166, ⟨z2166, hz2166, ez2166⟩, F2166⟩ := hRy2166
  refine y_iF (c := .eq) (off := 5) (len := 3) (r := (0, 0, 0, 0)) (by decide +kernel) (acmpF (c := .eq) (by show ¬ (_ = _); omega)) ?_
  refine y_ic (c := 0) (len := 1) (r := (0, 0, 0, 0)) (by decide +kernel) (by decide) (fun y2167 hy2167 => ?_)
  refine y_rI (len := 1) (r := (0, 0, 0, 0)) (nL := 3) (k := 1) (n9 := 3) (hs := []) (by decide +kernel) rfl rfl ?_
  exact ⟨_, hg2166, RM_up rm (fun k j hC => ((F2166 k j (by omega)).trans (ho2149 k j (by omega)))), fun k j hC => ((F2166 k j (by omega)).trans (ho2149 k j (by omega))), _, hz2166, by omega⟩
theorem m_dropT {t : Nat} {τ : List Nat} {h : zh} {cur : bsT} {hs : List bsT} {x xk : Int32} (hg : hG τ h) (rm : RM h cur hs) (hx : ¬ (x.toInt = 0 ∨ x.toInt = 1)) : qI 60 190 [some (.inl (some 52)), some (zi x), some (zi xk)] h t (fun y h1 => ∃ τ1, hG τ1 h1 ∧ RM h1 cur hs ∧ frM h h1 ∧ ∃ z : Int32, hsl h1 52 0 = some (zi z) ∧ z.toInt = 1) := by
  refine qI_le (d := 21) (by decide) (qI_of ?_)
  have lz := len55 hg rm.1
  obtain ⟨⟨xp0z, hp0z, ep0z⟩, ⟨xc0z, hc0z, ec0z⟩, ip0z, ic0z⟩ := rm.1.1
  obtain ⟨⟨xp1z, hp1z, ep1z⟩, ⟨xc1z, hc1z, ec1z⟩, ip1z, ic1z⟩ := rm.1.2
  refine y_same (i := .aload_n 0) (len := 1) (r := (0, 0, 0, 0)) (pc' := 1) (ls' := [some (.inl (some 52)), some (zi x), some (zi xk)]) (st' := [.inl (some 52)]) (by decide +kernel) (fun k q => by cases q) rfl ?_
  refine y_ic (c := 0) (len := 1) (r := (0, 0, 0, 0)) (by decide +kernel) (by decide) (fun y2168 hy2168 => ?_)
  refine y_put (j := 92) (lo := (-2147483648)) (hi := 2147483647) (len := 3) (r := (12, 0, 0, 1328)) (by decide +kernel) hg (t52 hg) at52 rfl rfl (by decide) rfl (qin_full _).1 (qin_full _).2 rfl (fun h2169 hg2169 hl2169 hs2169 ho2169 => ?_)
  have ho2169 : hO 52 0 h h2169 := ho2169
  have hs2169 : hsl h2169 52 0 = some (zi y2168) := hs2169
  refine y_same (i := .aload_n 0) (len := 1) (r := (0, 0, 0, 0)) (pc' := 6) (ls' := [some (.inl (some 52)), some (zi x), some (zi xk)]) (st' := [.inl (some 52)]) (by decide +kernel) (fun k q => by cases q) rfl ?_
  refine y_same (i := .iload_n 1) (len := 1) (r := (0, 0, 0, 0)) (pc' := 7) (ls' := [some (.inl (some 52)), some (zi x), some (zi xk)]) (st' := [zi x, .inl (some 52)]) (by decide +kernel) (fun k q => by cases q) rfl ?_
  refine y_ic (c := 0) (len := 1) (r := (0, 0, 0, 0)) (by decide +kernel) (by decide) (fun y2170 hy2170 => ?_)
  refine y_ic (c := 1) (len := 1) (r := (0, 0, 0, 0)) (by decide +kernel) (by decide) (fun y2171 hy2171 => ?_)
  refine y_cI (i := .invokestatic 200) (len := 3) (r := (1, 162, 12, 1486)) (nL := 3) (k := 2) (n := 3) (hs := []) (args := [zi x, zi y2170, zi y2171]) (rest := [.inl (some 52)]) (l0 := [some (zi x), some (zi y2170), some (zi y2171)]) (by decide +kernel) (Or.inl ⟨_, rfl⟩) rfl rfl rfl rfl (Nat.le_of_ble_eq_true rfl) rfl rfl (qI_le (by decide) (m_in0 (d := 0) (by omega))) (fun y2172 qy2172 hRy2172 => ?_)
  obtain ⟨rfl, hy2172⟩ := hRy2172
  refine y_iT (c := .eq) (off := 29) (pc' := 41) (len := 3) (r := (0, 0, 0, 0)) (by decide +kernel) (acmpT (c := .eq) (by show _ = _; omega)) (by decide +kernel) ?_
  refine y_ic (c := 1) (len := 1) (r := (0, 0, 0, 0)) (by decide +kernel) (by decide) (fun y2173 hy2173 => ?_)
  refine y_goto (off := 4) (pc' := 46) (len := 3) (r := (0, 0, 0, 0)) (by decide +kernel) (by decide +kernel) ?_
  refine y_ic (c := 1) (len := 1) (r := (0, 0, 0, 0)) (by decide +kernel) (by decide) (fun y2174 hy2174 => ?_)
  refine y_ic (c := 0) (len := 1) (r := (0, 0, 0, 0)) (by decide +kernel) (by decide) (fun y2175 hy2175 => ?_)
  refine y_cI (i := .invokevirtual 204) (len := 3) (r := (0, 161, 12, 1489)) (nL := 4) (k := 2) (n := 4) (hs := []) (args := [.inl (some 52), zi y2173, zi y2174, zi y2175]) (rest := []) (l0 := [some (.inl (some 52)), some (zi y2173), some (zi y2174), some (zi y2175)]) (by decide +kernel) (Or.inr (Or.inl ⟨_, rfl⟩)) rfl rfl rfl rfl (Nat.le_of_ble_eq_true rfl) (z52 hg2169) rfl (qI_le (by decide) (m_bad1 (d := 0) (e := 0) hg2169 (by omega) (by omega) (by omega) (by omega) hs2169 (by omega))) (fun y2176 h2176 hRy2176 => ?_)
  obtain ⟨hg2176, hy2176, ⟨z2176, hz2176, ez2176⟩, F2176⟩ := hRy2176
  refine y_iF (c := .eq) (off := 5) (len := 3) (r := (0, 0, 0, 0)) (by decide +kernel) (acmpF (c := .eq) (by show ¬ (_ = _); omega)) ?_
  refine y_ic (c := 0) (len := 1) (r := (0, 0, 0, 0)) (by decide +kernel) (by decide) (fun y2177 hy2177 => ?_)
  refine y_rI (len := 1) (r := (0, 0, 0, 0)) (nL := 3) (k := 1) (n9 := 3) (hs := []) (by decide +kernel) rfl rfl ?_
  exact ⟨_, hg2176, RM_up rm (fun k j hC => ((F2176 k j (by omega)).trans (ho2169 k j (by omega)))), fun k j hC => ((F2176 k j (by omega)).trans (ho2169 k j (by omega))), _, hz2176, by omega⟩
theorem m_dropX {t : Nat} {τ : List Nat} {h : zh} {cur : bsT} {hs : List bsT} {x xk : Int32} (hg : hG τ h) (rm : RM h cur hs) (hb : ¬ ((x.toInt = 0 ∧ 0 ≤ xk.toInt ∧ xk.toInt < (cur.1.1.length : Int)) ∨ (x.toInt = 1 ∧ 0 ≤ xk.toInt ∧ xk.toInt < (cur.2.1.length : Int)))) : qI 60 190 [some (.inl (some 52)), some (zi x), some (zi xk)] h t (fun y h1 => ∃ τ1, hG τ1 h1 ∧ RM h1 cur hs ∧ frM h h1 ∧ ∃ z : Int32, hsl h1 52 0 = some (zi z) ∧ z.toInt = 1) := by
  rcases Decidable.em (x.toInt = 0) with q | q
  · exact m_dropT0 hg rm q (by omega)
  · rcases Decidable.em (x.toInt = 1) with q1 | q1
    · exact m_dropT1 hg rm q1 (by omega)
    · exact m_dropT hg rm (by omega)
theorem m_forget0 {t k : Nat} {τ : List Nat} {h : zh} {cur : bsT} {hs : List bsT} {x xk : Int32} (hg : hG τ h) (rm : RM h cur hs) (hx : x.toInt = 0) (exk : xk.toInt = (k : Int)) (hk : k < cur.1.2.length) : qI 60 191 [some (.inl (some 52)), some (zi x), some (zi xk)] h t (fun y h1 => ∃ τ1, hG τ1 h1 ∧ RM h1 ((cur.1.1, cur.1.2.eraseIdx k), (cur.2.1, cur.2.2)) (psh hs cur) ∧ frM h h1 ∧ y.toInt = ((cur.1.2.length - 1 : Nat) : Int) ∧ ∃ z : Int32, hsl h1 52 0 = some (zi z) ∧ z.toInt = 0) := by
  refine qI_le (d := 21) (by decide) (qI_of ?_)
  have lz := len55 hg rm.1
  obtain ⟨⟨xp0z, hp0z, ep0z⟩, ⟨xc0z, hc0z, ec0z⟩, ip0z, ic0z⟩ := rm.1.1
  obtain ⟨⟨xp1z, hp1z, ep1z⟩, ⟨xc1z, hc1z, ec1z⟩, ip1z, ic1z⟩ := rm.1.2
  refine y_same (i := .aload_n 0) (len := 1) (r := (0, 0, 0, 0)) (pc' := 1) (ls' := [some (.inl (some 52)), some (zi x), some (zi xk)]) (st' := [.inl (some 52)]) (by decide +kernel) (fun k q => by cases q) rfl ?_
  refine y_ic (c := 0) (len := 1) (r := (0, 0, 0, 0)) (by decide +kernel) (by decide) (fun y2211 hy2211 => ?_)
  refine y_put (j := 92) (lo := (-2147483648)) (hi := 2147483647) (len := 3) (r := (12, 0, 0, 1328)) (by decide +kernel) hg (t52 hg) at52 rfl rfl (by decide) rfl (qin_full _).1 (qin_full _).2 rfl (fun h2212 hg2212 hl2212 hs2212 ho2212 => ?_)
  have ho2212 : hO 52 0 h h2212 := ho2212
  have hs2212 : hsl h2212 52 0 = some (zi y2211) := hs2212
  refine y_same (i := .aload_n 0) (len := 1) (r := (0, 0, 0, 0)) (pc' := 6) (ls' := [some (.inl (some 52)), some (zi x), some (zi xk)]) (st' := [.inl (some 52)]) (by decide +kernel) (fun k q => by cases q) rfl ?_
  refine y_same (i := .iload_n 1) (len := 1) (r := (0, 0, 0, 0)) (pc' := 7) (ls' := [some (.inl (some 52)), some (zi x), some (zi xk)]) (st' := [zi x, .inl (some 52)]) (by decide +kernel) (fun k q => by cases q) rfl ?_
  refine y_ic (c := 0) (len := 1) (r := (0, 0, 0, 0)) (by decide +kernel) (by decide) (fun y2213 hy2213 => ?_)
  refine y_ic (c := 1) (len := 1) (r := (0, 0, 0, 0)) (by decide +kernel) (by decide) (fun y2214 hy2214 => ?_)
  refine y_cI (i := .invokestatic 200) (len := 3) (r := (1, 162, 12, 1486)) (nL := 3) (k := 2) (n := 3) (hs := []) (args := [zi x, zi y2213, zi y2214]) (rest := [.inl (some 52)]) (l0 := [some (zi x), some (zi y2213), some (zi y2214)]) (by decide +kernel) (Or.inl ⟨_, rfl⟩) rfl rfl rfl rfl (Nat.le_of_ble_eq_true rfl) rfl rfl (qI_le (by decide) (m_in (d := 0) (by omega) (by omega))) (fun y2215 qy2215 hRy2215 => ?_)
  obtain ⟨rfl, hy2215⟩ := hRy2215
  refine y_iF (c := .eq) (off := 29) (len := 3) (r := (0, 0, 0, 0)) (by decide +kernel) (acmpF (c := .eq) (by show ¬ (_ = _); omega)) ?_
  refine y_same (i := .iload_n 2) (len := 1) (r := (0, 0, 0, 0)) (pc' := 16) (ls' := [some (.inl (some 52)), some (zi x), some (zi xk)]) (st' := [zi xk, .inl (some 52)]) (by decide +kernel) (fun k q => by cases q) rfl ?_
  refine y_ic (c := 0) (len := 1) (r := (0, 0, 0, 0)) (by decide +kernel) (by decide) (fun y2216 hy2216 => ?_)
  refine y_same (i := .aload_n 0) (len := 1) (r := (0, 0, 0, 0)) (pc' := 18) (ls' := [some (.inl (some 52)), some (zi x), some (zi xk)]) (st' := [.inl (some 52), zi y2216, zi xk, .inl (some 52)]) (by decide +kernel) (fun k q => by cases q) rfl ?_
  refine y_get (j := 20) (len := 3) (r := (12, 9, 2, 1337)) (by decide +kernel) hg2212 (t52 hg2212) at52 rfl rfl (g_r52 (f := 9) (T2 := 55) hg2212 rfl (by decide)).1 ?_
  refine y_ic (c := 1) (len := 1) (r := (0, 0, 0, 0)) (by decide +kernel) (by decide) (fun y2217 hy2217 => ?_)
  refine y_ic (c := 0) (len := 1) (r := (0, 0, 0, 0)) (by decide +kernel) (by decide) (fun y2218 hy2218 => ?_)
  refine y_same (i := .iload_n 1) (len := 1) (r := (0, 0, 0, 0)) (pc' := 24) (ls' := [some (.inl (some 52)), some (zi x), some (zi xk)]) (st' := [zi x, zi y2218, zi y2217, .inl (some 55), zi y2216, zi xk, .inl (some 52)]) (by decide +kernel) (fun k q => by cases q) rfl ?_
  refine y_cI (i := .invokestatic 230) (len := 3) (r := (1, 164, 12, 1591)) (nL := 2) (k := 1) (n := 2) (hs := []) (args := [zi y2218, zi x]) (rest := [zi y2217, .inl (some 55), zi y2216, zi xk, .inl (some 52)]) (l0 := [some (zi y2218), some (zi x)]) (by decide +kernel) (Or.inl ⟨_, rfl⟩) rfl rfl rfl rfl (Nat.le_of_ble_eq_true rfl) rfl rfl (qI_le (by decide) (e_more (d := 0))) (fun y2219 qy2219 hRy2219 => ?_)
  obtain ⟨rfl, my2219, ny2219⟩ := hRy2219
  have ey2219 : y2219.toInt = 0 := by omega
  refine y_cI (i := .invokestatic 233) (len := 3) (r := (1, 163, 12, 1594)) (nL := 2) (k := 1) (n := 2) (hs := []) (args := [zi y2217, zi y2219]) (rest := [.inl (some 55), zi y2216, zi xk, .inl (some 52)]) (l0 := [some (zi y2217), some (zi y2219)]) (by decide +kernel) (Or.inl ⟨_, rfl⟩) rfl rfl rfl rfl (Nat.le_of_ble_eq_true rfl) rfl rfl (qI_le (by decide) (e_less (d := 0))) (fun y2220 qy2220 hRy2220 => ?_)
  obtain ⟨rfl, my2220, ny2220⟩ := hRy2220
  have ey2220 : y2220.toInt = 0 := by omega
  have hv2222 := (ho2212 55 1 (Or.inl (by omega))).trans hc0z
  refine y_cI (i := .invokestatic 155) (len := 3) (r := (1, 167, 12, 1560)) (nL := 2) (k := 1) (n := 2) (hs := []) (args := [.inl (some 55), zi y2220]) (rest := [zi y2216, zi xk, .inl (some 52)]) (l0 := [some (.inl (some 55)), some (zi y2220)]) (by decide +kernel) (Or.inl ⟨_, rfl⟩) rfl rfl rfl rfl (Nat.le_of_ble_eq_true rfl) rfl rfl (qI_le (by decide) (m_claims (d := 0) (s := 0) hg2212 (by omega) (by omega) hv2222)) (fun y2221 qy2221 hRy2221 => ?_)
  obtain ⟨rfl, rfl⟩ := hRy2221
  refine y_ic (c := 1) (len := 1) (r := (0, 0, 0, 0)) (by decide +kernel) (by decide) (fun y2223 hy2223 => ?_)
  refine y_sub (len := 1) (r := (0, 0, 0, 0)) (by decide +kernel) (by omega) (by omega) (fun y2224 hy2224 => ?_)
  refine y_cI (i := .invokestatic 200) (len := 3) (r := (1, 162, 12, 1486)) (nL := 3) (k := 2) (n := 3) (hs := []) (args := [zi xk, zi y2216, zi y2224]) (rest := [.inl (some 52)]) (l0 := [some (zi xk), some (zi y2216), some (zi y2224)]) (by decide +kernel) (Or.inl ⟨_, rfl⟩) rfl rfl rfl rfl (Nat.le_of_ble_eq_true rfl) rfl rfl (qI_le (by decide) (m_in (d := 0) (by omega) (by omega))) (fun y2225 qy2225 hRy2225 => ?_)
  obtain ⟨rfl, hy2225⟩ := hRy2225
  refine y_iT (c := .ne) (off := 7) (pc' := 45) (len := 3) (r := (0, 0, 0, 0)) (by decide +kernel) (acmpT (c := .ne) (by show ¬ (_ = _); omega)) (by decide +kernel) ?_
  refine y_ic (c := 0) (len := 1) (r := (0, 0, 0, 0)) (by decide +kernel) (by decide) (fun y2226 hy2226 => ?_)
  refine y_ic (c := 1) (len := 1) (r := (0, 0, 0, 0)) (by decide +kernel) (by decide) (fun y2227 hy2227 => ?_)
  refine y_ic (c := 0) (len := 1) (r := (0, 0, 0, 0)) (by decide +kernel) (by decide) (fun y2228 hy2228 => ?_)
  refine y_cI (i := .invokevirtual 204) (len := 3) (r := (0, 161, 12, 1489)) (nL := 4) (k := 2) (n := 4) (hs := []) (args := [.inl (some 52), zi y2226, zi y2227, zi y2228]) (rest := []) (l0 := [some (.inl (some 52)), some (zi y2226), some (zi y2227), some (zi y2228)]) (by decide +kernel) (Or.inr (Or.inl ⟨_, rfl⟩)) rfl rfl rfl rfl (Nat.le_of_ble_eq_true rfl) (z52 hg2212) rfl (qI_le (by decide) (m_bad (d := 0) hg2212 (by omega) hs2212 (by omega))) (fun y2229 qy2229 hRy2229 => ?_)
  obtain ⟨rfl, hy2229⟩ := hRy2229
  refine y_iT (c := .eq) (off := 5) (pc' := 56) (len := 3) (r := (0, 0, 0, 0)) (by decide +kernel) (acmpT (c := .eq) (by show _ = _; omega)) (by decide +kernel) ?_
  refine y_same (i := .aload_n 0) (len := 1) (r := (0, 0, 0, 0)) (pc' := 57) (ls' := [some (.inl (some 52)), some (zi x), some (zi xk)]) (st' := [.inl (some 52)]) (by decide +kernel) (fun k q => by cases q) rfl ?_
  refine y_cV (i := .invokevirtual 213) (len := 3) (r := (0, 186, 12, 1568)) (nL := 2) (k := 0) (n := 1) (hs := []) (args := [.inl (some 52)]) (rest := []) (l0 := [some (.inl (some 52)), none]) (by decide +kernel) (Or.inr (Or.inl ⟨_, rfl⟩)) rfl rfl rfl rfl (Nat.le_of_ble_eq_true rfl) (z52 hg2212) rfl (qV_le (by decide) (m_rem hg2212 (RM_up rm (fun k j h1 => (ho2212 k j (by omega)))))) (fun h2230 hR2230 => ?_)
  obtain ⟨hg2230, rm2230, F2230⟩ := hR2230
  have le2230 := len55 hg2230 rm2230.1
  obtain ⟨⟨xp02230, hp02230, ep02230⟩, ⟨xc02230, hc02230, ec02230⟩, ip02230, ic02230⟩ := rm2230.1.1
  obtain ⟨⟨xp12230, hp12230, ep12230⟩, ⟨xc12230, hc12230, ec12230⟩, ip12230, ic12230⟩ := rm2230.1.2
  refine y_same (i := .aload_n 0) (len := 1) (r := (0, 0, 0, 0)) (pc' := 61) (ls' := [some (.inl (some 52)), some (zi x), some (zi xk)]) (st' := [.inl (some 52)]) (by decide +kernel) (fun k q => by cases q) rfl ?_
  refine y_same (i := .iload_n 1) (len := 1) (r := (0, 0, 0, 0)) (pc' := 62) (ls' := [some (.inl (some 52)), some (zi x), some (zi xk)]) (st' := [zi x, .inl (some 52)]) (by decide +kernel) (fun k q => by cases q) rfl ?_
  refine y_same (i := .iload_n 2) (len := 1) (r := (0, 0, 0, 0)) (pc' := 63) (ls' := [some (.inl (some 52)), some (zi x), some (zi xk)]) (st' := [zi xk, zi x, .inl (some 52)]) (by decide +kernel) (fun k q => by cases q) rfl ?_
  refine y_cI (i := .invokestatic 158) (len := 3) (r := (1, 169, 12, 1563)) (nL := 2) (k := 1) (n := 2) (hs := []) (args := [zi x, zi xk]) (rest := [.inl (some 52)]) (l0 := [some (zi x), some (zi xk)]) (by decide +kernel) (Or.inl ⟨_, rfl⟩) rfl rfl rfl rfl (Nat.le_of_ble_eq_true rfl) rfl rfl (qI_le (by decide) (m_claimAt (d := 0) (s := 0) (k := k) (by omega) (by omega) exk (by omega))) (fun y2231 qy2231 hRy2231 => ?_)
  obtain ⟨rfl, hy2231⟩ := hRy2231
  refine y_same (i := .aload_n 0) (len := 1) (r := (0, 0, 0, 0)) (pc' := 67) (ls' := [some (.inl (some 52)), some (zi x), some (zi xk)]) (st' := [.inl (some 52), zi y2231, .inl (some 52)]) (by decide +kernel) (fun k q => by cases q) rfl ?_
  refine y_get (j := 20) (len := 3) (r := (12, 9, 2, 1337)) (by decide +kernel) hg2230 (t52 hg2230) at52 rfl rfl (g_r52 (f := 9) (T2 := 55) hg2230 rfl (by decide)).1 ?_
  refine y_same (i := .iload_n 1) (len := 1) (r := (0, 0, 0, 0)) (pc' := 71) (ls' := [some (.inl (some 52)), some (zi x), some (zi xk)]) (st' := [zi x, .inl (some 55), zi y2231, .inl (some 52)]) (by decide +kernel) (fun k q => by cases q) rfl ?_
  refine y_cI (i := .invokestatic 155) (len := 3) (r := (1, 167, 12, 1560)) (nL := 2) (k := 1) (n := 2) (hs := []) (args := [.inl (some 55), zi x]) (rest := [zi y2231, .inl (some 52)]) (l0 := [some (.inl (some 55)), some (zi x)]) (by decide +kernel) (Or.inl ⟨_, rfl⟩) rfl rfl rfl rfl (Nat.le_of_ble_eq_true rfl) rfl rfl (qI_le (by decide) (m_claims (d := 0) (s := 0) hg2230 (by omega) (by omega) hc02230)) (fun y2232 qy2232 hRy2232 => ?_)
  obtain ⟨rfl, rfl⟩ := hRy2232
  refine y_same (i := .iload_n 2) (len := 1) (r := (0, 0, 0, 0)) (pc' := 75) (ls' := [some (.inl (some 52)), some (zi x), some (zi xk)]) (st' := [zi xk, zi xc02230, zi y2231, .inl (some 52)]) (by decide +kernel) (fun k q => by cases q) rfl ?_
  refine y_sub (len := 1) (r := (0, 0, 0, 0)) (by decide +kernel) (by omega) (by omega) (fun y2233 hy2233 => ?_)
  refine y_cV (i := .invokevirtual 236) (len := 3) (r := (0, 189, 12, 1597)) (nL := 4) (k := 0) (n := 3) (hs := []) (args := [.inl (some 52), zi y2231, zi y2233]) (rest := []) (l0 := [some (.inl (some 52)), some (zi y2231), some (zi y2233), none]) (by decide +kernel) (Or.inr (Or.inl ⟨_, rfl⟩)) rfl rfl rfl rfl (Nat.le_of_ble_eq_true rfl) (z52 hg2230) rfl (qV_le (by decide) (m_closes (f := (22 + 4 * k)) (m := (cur.1.2.length - k)) hg2230 (by omega) (by omega) (by omega) (by omega))) (fun h2234 hR2234 => ?_)
  obtain ⟨hg2234, a2234, F2234⟩ := hR2234
  refine y_same (i := .aload_n 0) (len := 1) (r := (0, 0, 0, 0)) (pc' := 80) (ls' := [some (.inl (some 52)), some (zi x), some (zi xk)]) (st' := [.inl (some 52)]) (by decide +kernel) (fun k q => by cases q) rfl ?_
  refine y_get (j := 20) (len := 3) (r := (12, 9, 2, 1337)) (by decide +kernel) hg2234 (t52 hg2234) at52 rfl rfl (g_r52 (f := 9) (T2 := 55) hg2234 rfl (by decide)).1 ?_
  refine y_bi (c := 46) (len := 2) (r := (0, 0, 0, 0)) (by decide +kernel) (by decide) (fun y2235 hy2235 => ?_)
  refine y_same (i := .iload_n 1) (len := 1) (r := (0, 0, 0, 0)) (pc' := 86) (ls' := [some (.inl (some 52)), some (zi x), some (zi xk)]) (st' := [zi x, zi y2235, .inl (some 55)]) (by decide +kernel) (fun k q => by cases q) rfl ?_
  refine y_mul (c := 46) (len := 1) (r := (0, 0, 0, 0)) (by decide +kernel) (by omega) (by omega) (by omega) (fun y2236 hy2236 => ?_)
  refine y_ic (c := 1) (len := 1) (r := (0, 0, 0, 0)) (by decide +kernel) (by decide) (fun y2237 hy2237 => ?_)
  refine y_add (len := 1) (r := (0, 0, 0, 0)) (by decide +kernel) (by omega) (by omega) (fun y2238 hy2238 => ?_)
  refine y_same (i := .dup2) (len := 1) (r := (0, 0, 0, 0)) (pc' := 90) (ls' := [some (.inl (some 52)), some (zi x), some (zi xk)]) (st' := [zi y2238, .inl (some 55), zi y2238, .inl (some 55)]) (by decide +kernel) (fun k q => by cases q) rfl ?_
  have hv2239 := (F2234 55 1 (by omega)).trans hc02230
  refine y_ial (i := 1) (len := 1) (r := (0, 0, 0, 0)) (by decide +kernel) hg2234 (tv55 hg2234) av55 (by omega) hv2239 ?_
  refine y_ic (c := 1) (len := 1) (r := (0, 0, 0, 0)) (by decide +kernel) (by decide) (fun y2240 hy2240 => ?_)
  refine y_sub (len := 1) (r := (0, 0, 0, 0)) (by decide +kernel) (by omega) (by omega) (fun y2241 hy2241 => ?_)
  refine y_ias (i := 1) (len := 1) (r := (0, 0, 0, 0)) (by decide +kernel) hg2234 (tv55 hg2234) av55 rfl (by omega) (by omega) (sr92 _ (by omega)) (by omega) (by omega) (fun h2242 hg2242 hl2242 hs2242 ho2242 => ?_)
  refine y_same (i := .aload_n 0) (len := 1) (r := (0, 0, 0, 0)) (pc' := 95) (ls' := [some (.inl (some 52)), some (zi x), some (zi xk)]) (st' := [.inl (some 52)]) (by decide +kernel) (fun k q => by cases q) rfl ?_
  refine y_get (j := 20) (len := 3) (r := (12, 9, 2, 1337)) (by decide +kernel) hg2242 (t52 hg2242) at52 rfl rfl (g_r52 (f := 9) (T2 := 55) hg2242 rfl (by decide)).1 ?_
  refine y_same (i := .iload_n 1) (len := 1) (r := (0, 0, 0, 0)) (pc' := 99) (ls' := [some (.inl (some 52)), some (zi x), some (zi xk)]) (st' := [zi x, .inl (some 55)]) (by decide +kernel) (fun k q => by cases q) rfl ?_
  refine y_cI (i := .invokestatic 155) (len := 3) (r := (1, 167, 12, 1560)) (nL := 2) (k := 1) (n := 2) (hs := []) (args := [.inl (some 55), zi x]) (rest := []) (l0 := [some (.inl (some 55)), some (zi x)]) (by decide +kernel) (Or.inl ⟨_, rfl⟩) rfl rfl rfl rfl (Nat.le_of_ble_eq_true rfl) rfl rfl (qI_le (by decide) (m_claims (d := 0) (s := 0) hg2242 (by omega) (by omega) hs2242)) (fun y2243 qy2243 hRy2243 => ?_)
  obtain ⟨rfl, rfl⟩ := hRy2243
  refine y_rI (len := 1) (r := (0, 0, 0, 0)) (nL := 3) (k := 1) (n9 := 3) (hs := []) (by decide +kernel) rfl rfl ?_
  have hv2244 := (F2230 52 0 (by omega)).trans hs2212
  have hv2245 := (F2234 52 0 (by omega)).trans hv2244
  have hv2246 := (ho2242 52 0 (Or.inl (by omega))).trans hv2245
  have G : ∀ j, (j ≠ 1 ∧ (j < 22 + 4 * k ∨ 22 + 4 * cur.1.2.length ≤ j)) → hsl h2242 55 j = hsl h2230 55 j := fun j hj => ((ho2242 55 j (by omega))).trans (F2234 55 j (by omega))
  have A : ∀ j, 22 + 4 * k ≤ j → j < 22 + 4 * k + 4 * (cur.1.2.length - k - 1) → hsl h2242 55 j = hsl h2230 55 (j + 4) := fun j h1 h2 => ((ho2242 55 j (by omega))).trans (a2234 j (by omega) (by omega))
  refine ⟨_, hg2242, RM_set rm2230 ⟨sdM_ec rm2230.1.1 hk le2230.1 le2230.2.1 ⟨_, hs2242, by omega⟩ (G _ (by omega)) (fun j h1 h2 => A j (by omega) (by omega)) (fun j hj => G j (by omega)), sdM_to rm2230.1.2 le2230.2.2.1 le2230.2.2.2 (fun j hj => G _ (by omega))⟩ (fun k j hC => ((ho2242 k j (by omega)).trans (F2234 k j (by omega)))), fun k j hC => ((ho2242 k j (by omega)).trans ((F2234 k j (by omega)).trans ((F2230 k j (by omega)).trans (ho2212 k j (by omega))))), by omega, _, hv2246, by omega⟩
theorem m_forget1 {t k : Nat} {τ : List Nat} {h : zh} {cur : bsT} {hs : List bsT} {x xk : Int32} (hg : hG τ h) (rm : RM h cur hs) (hx : x.toInt = 1) (exk : xk.toInt = (k : Int)) (hk : k < cur.2.2.length) : qI 60 191 [some (.inl (some 52)), some (zi x), some (zi xk)] h t (fun y h1 => ∃ τ1, hG τ1 h1 ∧ RM h1 ((cur.1.1, cur.1.2), (cur.2.1, cur.2.2.eraseIdx k)) (psh hs cur) ∧ frM h h1 ∧ y.toInt = ((cur.2.2.length - 1 : Nat) : Int) ∧ ∃ z : Int32, hsl h1 52 0 = some (zi z) ∧ z.toInt = 0) := by
  refine qI_le (d := 21) (by decide) (qI_of ?_)
  have lz := len55 hg rm.1
  obtain ⟨⟨xp0z, hp0z, ep0z⟩, ⟨xc0z, hc0z, ec0z⟩, ip0z, ic0z⟩ := rm.1.1
  obtain ⟨⟨xp1z, hp1z, ep1z⟩, ⟨xc1z, hc1z, ec1z⟩, ip1z, ic1z⟩ := rm.1.2
  refine y_same (i := .aload_n 0) (len := 1) (r := (0, 0, 0, 0)) (pc' := 1) (ls' := [some (.inl (some 52)), some (zi x), some (zi xk)]) (st' := [.inl (some 52)]) (by decide +kernel) (fun k q => by cases q) rfl ?_
  refine y_ic (c := 0) (len := 1) (r := (0, 0, 0, 0)) (by decide +kernel) (by decide) (fun y2280 hy2280 => ?_)
  refine y_put (j := 92) (lo := (-2147483648)) (hi := 2147483647) (len := 3) (r := (12, 0, 0, 1328)) (by decide +kernel) hg (t52 hg) at52 rfl rfl (by decide) rfl (qin_full _).1 (qin_full _).2 rfl (fun h2281 hg2281 hl2281 hs2281 ho2281 => ?_)
  have ho2281 : hO 52 0 h h2281 := ho2281
  have hs2281 : hsl h2281 52 0 = some (zi y2280) := hs2281
  refine y_same (i := .aload_n 0) (len := 1) (r := (0, 0, 0, 0)) (pc' := 6) (ls' := [some (.inl (some 52)), some (zi x), some (zi xk)]) (st' := [.inl (some 52)]) (by decide +kernel) (fun k q => by cases q) rfl ?_
  refine y_same (i := .iload_n 1) (len := 1) (r := (0, 0, 0, 0)) (pc' := 7) (ls' := [some (.inl (some 52)), some (zi x), some (zi xk)]) (st' := [zi x, .inl (some 52)]) (by decide +kernel) (fun k q => by cases q) rfl ?_
  refine y_ic (c := 0) (len := 1) (r := (0, 0, 0, 0)) (by decide +kernel) (by decide) (fun y2282 hy2282 => ?_)
  refine y_ic (c := 1) (len := 1) (r := (0, 0, 0, 0)) (by decide +kernel) (by decide) (fun y2283 hy2283 => ?_)
  refine y_cI (i := .invokestatic 200) (len := 3) (r := (1, 162, 12, 1486)) (nL := 3) (k := 2) (n := 3) (hs := []) (args := [zi x, zi y2282, zi y2283]) (rest := [.inl (some 52)]) (l0 := [some (zi x), some (zi y2282), some (zi y2283)]) (by decide +kernel) (Or.inl ⟨_, rfl⟩) rfl rfl rfl rfl (Nat.le_of_ble_eq_true rfl) rfl rfl (qI_le (by decide) (m_in (d := 0) (by omega) (by omega))) (fun y2284 qy2284 hRy2284 => ?_)
  obtain ⟨rfl, hy2284⟩ := hRy2284
  refine y_iF (c := .eq) (off := 29) (len := 3) (r := (0, 0, 0, 0)) (by decide +kernel) (acmpF (c := .eq) (by show ¬ (_ = _); omega)) ?_
  refine y_same (i := .iload_n 2) (len := 1) (r := (0, 0, 0, 0)) (pc' := 16) (ls' := [some (.inl (some 52)), some (zi x), some (zi xk)]) (st' := [zi xk, .inl (some 52)]) (by decide +kernel) (fun k q => by cases q) rfl ?_
  refine y_ic (c := 0) (len := 1) (r := (0, 0, 0, 0)) (by decide +kernel) (by decide) (fun y2285 hy2285 => ?_)
  refine y_same (i := .aload_n 0) (len := 1) (r := (0, 0, 0, 0)) (pc' := 18) (ls' := [some (.inl (some 52)), some (zi x), some (zi xk)]) (st' := [.inl (some 52), zi y2285, zi xk, .inl (some 52)]) (by decide +kernel) (fun k q => by cases q) rfl ?_
  refine y_get (j := 20) (len := 3) (r := (12, 9, 2, 1337)) (by decide +kernel) hg2281 (t52 hg2281) at52 rfl rfl (g_r52 (f := 9) (T2 := 55) hg2281 rfl (by decide)).1 ?_
  refine y_ic (c := 1) (len := 1) (r := (0, 0, 0, 0)) (by decide +kernel) (by decide) (fun y2286 hy2286 => ?_)
  refine y_ic (c := 0) (len := 1) (r := (0, 0, 0, 0)) (by decide +kernel) (by decide) (fun y2287 hy2287 => ?_)
  refine y_same (i := .iload_n 1) (len := 1) (r := (0, 0, 0, 0)) (pc' := 24) (ls' := [some (.inl (some 52)), some (zi x), some (zi xk)]) (st' := [zi x, zi y2287, zi y2286, .inl (some 55), zi y2285, zi xk, .inl (some 52)]) (by decide +kernel) (fun k q => by cases q) rfl ?_
  refine y_cI (i := .invokestatic 230) (len := 3) (r := (1, 164, 12, 1591)) (nL := 2) (k := 1) (n := 2) (hs := []) (args := [zi y2287, zi x]) (rest := [zi y2286, .inl (some 55), zi y2285, zi xk, .inl (some 52)]) (l0 := [some (zi y2287), some (zi x)]) (by decide +kernel) (Or.inl ⟨_, rfl⟩) rfl rfl rfl rfl (Nat.le_of_ble_eq_true rfl) rfl rfl (qI_le (by decide) (e_more (d := 0))) (fun y2288 qy2288 hRy2288 => ?_)
  obtain ⟨rfl, my2288, ny2288⟩ := hRy2288
  have ey2288 : y2288.toInt = 1 := by omega
  refine y_cI (i := .invokestatic 233) (len := 3) (r := (1, 163, 12, 1594)) (nL := 2) (k := 1) (n := 2) (hs := []) (args := [zi y2286, zi y2288]) (rest := [.inl (some 55), zi y2285, zi xk, .inl (some 52)]) (l0 := [some (zi y2286), some (zi y2288)]) (by decide +kernel) (Or.inl ⟨_, rfl⟩) rfl rfl rfl rfl (Nat.le_of_ble_eq_true rfl) rfl rfl (qI_le (by decide) (e_less (d := 0))) (fun y2289 qy2289 hRy2289 => ?_)
  obtain ⟨rfl, my2289, ny2289⟩ := hRy2289
  have ey2289 : y2289.toInt = 1 := by omega
  have hv2291 := (ho2281 55 47 (Or.inl (by omega))).trans hc1z
  refine y_cI (i := .invokestatic 155) (len := 3) (r := (1, 167, 12, 1560)) (nL := 2) (k := 1) (n := 2) (hs := []) (args := [.inl (some 55), zi y2289]) (rest := [zi y2285, zi xk, .inl (some 52)]) (l0 := [some (.inl (some 55)), some (zi y2289)]) (by decide +kernel) (Or.inl ⟨_, rfl⟩) rfl rfl rfl rfl (Nat.le_of_ble_eq_true rfl) rfl rfl (qI_le (by decide) (m_claims (d := 0) (s := 1) hg2281 (by omega) (by omega) hv2291)) (fun y2290 qy2290 hRy2290 => ?_)
  obtain ⟨rfl, rfl⟩ := hRy2290
  refine y_ic (c := 1) (len := 1) (r := (0, 0, 0, 0)) (by decide +kernel) (by decide) (fun y2292 hy2292 => ?_)
  refine y_sub (len := 1) (r := (0, 0, 0, 0)) (by decide +kernel) (by omega) (by omega) (fun y2293 hy2293 => ?_)
  refine y_cI (i := .invokestatic 200) (len := 3) (r := (1, 162, 12, 1486)) (nL := 3) (k := 2) (n := 3) (hs := []) (args := [zi xk, zi y2285, zi y2293]) (rest := [.inl (some 52)]) (l0 := [some (zi xk), some (zi y2285), some (zi y2293)]) (by decide +kernel) (Or.inl ⟨_, rfl⟩) rfl rfl rfl rfl (Nat.le_of_ble_eq_true rfl) rfl rfl (qI_le (by decide) (m_in (d := 0) (by omega) (by omega))) (fun y2294 qy2294 hRy2294 => ?_)
  obtain ⟨rfl, hy2294⟩ := hRy2294
  refine y_iT (c := .ne) (off := 7) (pc' := 45) (len := 3) (r := (0, 0, 0, 0)) (by decide +kernel) (acmpT (c := .ne) (by show ¬ (_ = _); omega)) (by decide +kernel) ?_
  refine y_ic (c := 0) (len := 1) (r := (0, 0, 0, 0)) (by decide +kernel) (by decide) (fun y2295 hy2295 => ?_)
  refine y_ic (c := 1) (len := 1) (r := (0, 0, 0, 0)) (by decide +kernel) (by decide) (fun y2296 hy2296 => ?_)
  refine y_ic (c := 0) (len := 1) (r := (0, 0, 0, 0)) (by decide +kernel) (by decide) (fun y2297 hy2297 => ?_)
  refine y_cI (i := .invokevirtual 204) (len := 3) (r := (0, 161, 12, 1489)) (nL := 4) (k := 2) (n := 4) (hs := []) (args := [.inl (some 52), zi y2295, zi y2296, zi y2297]) (rest := []) (l0 := [some (.inl (some 52)), some (zi y2295), some (zi y2296), some (zi y2297)]) (by decide +kernel) (Or.inr (Or.inl ⟨_, rfl⟩)) rfl rfl rfl rfl (Nat.le_of_ble_eq_true rfl) (z52 hg2281) rfl (qI_le (by decide) (m_bad (d := 0) hg2281 (by omega) hs2281 (by omega))) (fun y2298 qy2298 hRy2298 => ?_)
  obtain ⟨rfl, hy2298⟩ := hRy2298
  refine y_iT (c := .eq) (off := 5) (pc' := 56) (len := 3) (r := (0, 0, 0, 0)) (by decide +kernel) (acmpT (c := .eq) (by show _ = _; omega)) (by decide +kernel) ?_
  refine y_same (i := .aload_n 0) (len := 1) (r := (0, 0, 0, 0)) (pc' := 57) (ls' := [some (.inl (some 52)), some (zi x), some (zi xk)]) (st' := [.inl (some 52)]) (by decide +kernel) (fun k q => by cases q) rfl ?_
  refine y_cV (i := .invokevirtual 213) (len := 3) (r := (0, 186, 12, 1568)) (nL := 2) (k := 0) (n := 1) (hs := []) (args := [.inl (some 52)]) (rest := []) (l0 := [some (.inl (some 52)), none]) (by decide +kernel) (Or.inr (Or.inl ⟨_, rfl⟩)) rfl rfl rfl rfl (Nat.le_of_ble_eq_true rfl) (z52 hg2281) rfl (qV_le (by decide) (m_rem hg2281 (RM_up rm (fun k j h1 => (ho2281 k j (by omega)))))) (fun h2299 hR2299 => ?_)
  obtain ⟨hg2299, rm2299, F2299⟩ := hR2299
  have le2299 := len55 hg2299 rm2299.1
  obtain ⟨⟨xp02299, hp02299, ep02299⟩, ⟨xc02299, hc02299, ec02299⟩, ip02299, ic02299⟩ := rm2299.1.1
  obtain ⟨⟨xp12299, hp12299, ep12299⟩, ⟨xc12299, hc12299, ec12299⟩, ip12299, ic12299⟩ := rm2299.1.2
  refine y_same (i := .aload_n 0) (len := 1) (r := (0, 0, 0, 0)) (pc' := 61) (ls' := [some (.inl (some 52)), some (zi x), some (zi xk)]) (st' := [.inl (some 52)]) (by decide +kernel) (fun k q => by cases q) rfl ?_
  refine y_same (i := .iload_n 1) (len := 1) (r := (0, 0, 0, 0)) (pc' := 62) (ls' := [some (.inl (some 52)), some (zi x), some (zi xk)]) (st' := [zi x, .inl (some 52)]) (by decide +kernel) (fun k q => by cases q) rfl ?_
  refine y_same (i := .iload_n 2) (len := 1) (r := (0, 0, 0, 0)) (pc' := 63) (ls' := [some (.inl (some 52)), some (zi x), some (zi xk)]) (st' := [zi xk, zi x, .inl (some 52)]) (by decide +kernel) (fun k q => by cases q) rfl ?_
  refine y_cI (i := .invokestatic 158) (len := 3) (r := (1, 169, 12, 1563)) (nL := 2) (k := 1) (n := 2) (hs := []) (args := [zi x, zi xk]) (rest := [.inl (some 52)]) (l0 := [some (zi x), some (zi xk)]) (by decide +kernel) (Or.inl ⟨_, rfl⟩) rfl rfl rfl rfl (Nat.le_of_ble_eq_true rfl) rfl rfl (qI_le (by decide) (m_claimAt (d := 0) (s := 1) (k := k) (by omega) (by omega) exk (by omega))) (fun y2300 qy2300 hRy2300 => ?_)
  obtain ⟨rfl, hy2300⟩ := hRy2300
  refine y_same (i := .aload_n 0) (len := 1) (r := (0, 0, 0, 0)) (pc' := 67) (ls' := [some (.inl (some 52)), some (zi x), some (zi xk)]) (st' := [.inl (some 52), zi y2300, .inl (some 52)]) (by decide +kernel) (fun k q => by cases q) rfl ?_
  refine y_get (j := 20) (len := 3) (r := (12, 9, 2, 1337)) (by decide +kernel) hg2299 (t52 hg2299) at52 rfl rfl (g_r52 (f := 9) (T2 := 55) hg2299 rfl (by decide)).1 ?_
  refine y_same (i := .iload_n 1) (len := 1) (r := (0, 0, 0, 0)) (pc' := 71) (ls' := [some (.inl (some 52)), some (zi x), some (zi xk)]) (st' := [zi x, .inl (some 55), zi y2300, .inl (some 52)]) (by decide +kernel) (fun k q => by cases q) rfl ?_
  refine y_cI (i := .invokestatic 155) (len := 3) (r := (1, 167, 12, 1560)) (nL := 2) (k := 1) (n := 2) (hs := []) (args := [.inl (some 55), zi x]) (rest := [zi y2300, .inl (some 52)]) (l0 := [some (.inl (some 55)), some (zi x)]) (by decide +kernel) (Or.inl ⟨_, rfl⟩) rfl rfl rfl rfl (Nat.le_of_ble_eq_true rfl) rfl rfl (qI_le (by decide) (m_claims (d := 0) (s := 1) hg2299 (by omega) (by omega) hc12299)) (fun y2301 qy2301 hRy2301 => ?_)
  obtain ⟨rfl, rfl⟩ := hRy2301
  refine y_same (i := .iload_n 2) (len := 1) (r := (0, 0, 0, 0)) (pc' := 75) (ls' := [some (.inl (some 52)), some (zi x), some (zi xk)]) (st' := [zi xk, zi xc12299, zi y2300, .inl (some 52)]) (by decide +kernel) (fun k q => by cases q) rfl ?_
  refine y_sub (len := 1) (r := (0, 0, 0, 0)) (by decide +kernel) (by omega) (by omega) (fun y2302 hy2302 => ?_)
  refine y_cV (i := .invokevirtual 236) (len := 3) (r := (0, 189, 12, 1597)) (nL := 4) (k := 0) (n := 3) (hs := []) (args := [.inl (some 52), zi y2300, zi y2302]) (rest := []) (l0 := [some (.inl (some 52)), some (zi y2300), some (zi y2302), none]) (by decide +kernel) (Or.inr (Or.inl ⟨_, rfl⟩)) rfl rfl rfl rfl (Nat.le_of_ble_eq_true rfl) (z52 hg2299) rfl (qV_le (by decide) (m_closes (f := (68 + 4 * k)) (m := (cur.2.2.length - k)) hg2299 (by omega) (by omega) (by omega) (by omega))) (fun h2303 hR2303 => ?_)
  obtain ⟨hg2303, a2303, F2303⟩ := hR2303
  refine y_same (i := .aload_n 0) (len := 1) (r := (0, 0, 0, 0)) (pc' := 80) (ls' := [some (.inl (some 52)), some (zi x), some (zi xk)]) (st' := [.inl (some 52)]) (by decide +kernel) (fun k q => by cases q) rfl ?_
  refine y_get (j := 20) (len := 3) (r := (12, 9, 2, 1337)) (by decide +kernel) hg2303 (t52 hg2303) at52 rfl rfl (g_r52 (f := 9) (T2 := 55) hg2303 rfl (by decide)).1 ?_
  refine y_bi (c := 46) (len := 2) (r := (0, 0, 0, 0)) (by decide +kernel) (by decide) (fun y2304 hy2304 => ?_)
  refine y_same (i := .iload_n 1) (len := 1) (r := (0, 0, 0, 0)) (pc' := 86) (ls' := [some (.inl (some 52)), some (zi x), some (zi xk)]) (st' := [zi x, zi y2304, .inl (some 55)]) (by decide +kernel) (fun k q => by cases q) rfl ?_
  refine y_mul (c := 46) (len := 1) (r := (0, 0, 0, 0)) (by decide +kernel) (by omega) (by omega) (by omega) (fun y2305 hy2305 => ?_)
  refine y_ic (c := 1) (len := 1) (r := (0, 0, 0, 0)) (by decide +kernel) (by decide) (fun y2306 hy2306 => ?_)
  refine y_add (len := 1) (r := (0, 0, 0, 0)) (by decide +kernel) (by omega) (by omega) (fun y2307 hy2307 => ?_)
  refine y_same (i := .dup2) (len := 1) (r := (0, 0, 0, 0)) (pc' := 90) (ls' := [some (.inl (some 52)), some (zi x), some (zi xk)]) (st' := [zi y2307, .inl (some 55), zi y2307, .inl (some 55)]) (by decide +kernel) (fun k q => by cases q) rfl ?_
  have hv2308 := (F2303 55 47 (by omega)).trans hc12299
  refine y_ial (i := 47) (len := 1) (r := (0, 0, 0, 0)) (by decide +kernel) hg2303 (tv55 hg2303) av55 (by omega) hv2308 ?_
  refine y_ic (c := 1) (len := 1) (r := (0, 0, 0, 0)) (by decide +kernel) (by decide) (fun y2309 hy2309 => ?_)
  refine y_sub (len := 1) (r := (0, 0, 0, 0)) (by decide +kernel) (by omega) (by omega) (fun y2310 hy2310 => ?_)
  refine y_ias (i := 47) (len := 1) (r := (0, 0, 0, 0)) (by decide +kernel) hg2303 (tv55 hg2303) av55 rfl (by omega) (by omega) (sr92 _ (by omega)) (by omega) (by omega) (fun h2311 hg2311 hl2311 hs2311 ho2311 => ?_)
  refine y_same (i := .aload_n 0) (len := 1) (r := (0, 0, 0, 0)) (pc' := 95) (ls' := [some (.inl (some 52)), some (zi x), some (zi xk)]) (st' := [.inl (some 52)]) (by decide +kernel) (fun k q => by cases q) rfl ?_
  refine y_get (j := 20) (len := 3) (r := (12, 9, 2, 1337)) (by decide +kernel) hg2311 (t52 hg2311) at52 rfl rfl (g_r52 (f := 9) (T2 := 55) hg2311 rfl (by decide)).1 ?_
  refine y_same (i := .iload_n 1) (len := 1) (r := (0, 0, 0, 0)) (pc' := 99) (ls' := [some (.inl (some 52)), some (zi x), some (zi xk)]) (st' := [zi x, .inl (some 55)]) (by decide +kernel) (fun k q => by cases q) rfl ?_
  refine y_cI (i := .invokestatic 155) (len := 3) (r := (1, 167, 12, 1560)) (nL := 2) (k := 1) (n := 2) (hs := []) (args := [.inl (some 55), zi x]) (rest := []) (l0 := [some (.inl (some 55)), some (zi x)]) (by decide +kernel) (Or.inl ⟨_, rfl⟩) rfl rfl rfl rfl (Nat.le_of_ble_eq_true rfl) rfl rfl (qI_le (by decide) (m_claims (d := 0) (s := 1) hg2311 (by omega) (by omega) hs2311)) (fun y2312 qy2312 hRy2312 => ?_)
  obtain ⟨rfl, rfl⟩ := hRy2312
  refine y_rI (len := 1) (r := (0, 0, 0, 0)) (nL := 3) (k := 1) (n9 := 3) (hs := []) (by decide +kernel) rfl rfl ?_
  have hv2313 := (F2299 52 0 (by omega)).trans hs2281
  have hv2314 := (F2303 52 0 (by omega)).trans hv2313
  have hv2315 := (ho2311 52 0 (Or.inl (by omega))).trans hv2314
  have G : ∀ j, (j ≠ 47 ∧ (j < 68 + 4 * k ∨ 68 + 4 * cur.2.2.length ≤ j)) → hsl h2311 55 j = hsl h2299 55 j := fun j hj => ((ho2311 55 j (by omega))).trans (F2303 55 j (by omega))
  have A : ∀ j, 68 + 4 * k ≤ j → j < 68 + 4 * k + 4 * (cur.2.2.length - k - 1) → hsl h2311 55 j = hsl h2299 55 (j + 4) := fun j h1 h2 => ((ho2311 55 j (by omega))).trans (a2303 j (by omega) (by omega))
  refine ⟨_, hg2311, RM_set rm2299 ⟨sdM_to rm2299.1.1 le2299.1 le2299.2.1 (fun j hj => G _ (by omega)), sdM_ec rm2299.1.2 hk le2299.2.2.1 le2299.2.2.2 ⟨_, hs2311, by omega⟩ (G _ (by omega)) (fun j h1 h2 => A j (by omega) (by omega)) (fun j hj => G j (by omega))⟩ (fun k j hC => ((ho2311 k j (by omega)).trans (F2303 k j (by omega)))), fun k j hC => ((ho2311 k j (by omega)).trans ((F2303 k j (by omega)).trans ((F2299 k j (by omega)).trans (ho2281 k j (by omega))))), by omega, _, hv2315, by omega⟩
theorem m_forgetT0 {t : Nat} {τ : List Nat} {h : zh} {cur : bsT} {hs : List bsT} {x xk : Int32} (hg : hG τ h) (rm : RM h cur hs) (hx : x.toInt = 0) (hk : ¬ (0 ≤ xk.toInt ∧ xk.toInt < (cur.1.2.length : Int))) : qI 60 191 [some (.inl (some 52)), some (zi x), some (zi xk)] h t (fun y h1 => ∃ τ1, hG τ1 h1 ∧ RM h1 cur hs ∧ frM h h1 ∧ ∃ z : Int32, hsl h1 52 0 = some (zi z) ∧ z.toInt = 1) := by
  refine qI_le (d := 21) (by decide) (qI_of ?_)
  have lz := len55 hg rm.1
  obtain ⟨⟨xp0z, hp0z, ep0z⟩, ⟨xc0z, hc0z, ec0z⟩, ip0z, ic0z⟩ := rm.1.1
  obtain ⟨⟨xp1z, hp1z, ep1z⟩, ⟨xc1z, hc1z, ec1z⟩, ip1z, ic1z⟩ := rm.1.2
  refine y_same (i := .aload_n 0) (len := 1) (r := (0, 0, 0, 0)) (pc' := 1) (ls' := [some (.inl (some 52)), some (zi x), some (zi xk)]) (st' := [.inl (some 52)]) (by decide +kernel) (fun k q => by cases q) rfl ?_
  refine y_ic (c := 0) (len := 1) (r := (0, 0, 0, 0)) (by decide +kernel) (by decide) (fun y2316 hy2316 => ?_)
  refine y_put (j := 92) (lo := (-2147483648)) (hi := 2147483647) (len := 3) (r := (12, 0, 0, 1328)) (by decide +kernel) hg (t52 hg) at52 rfl rfl (by decide) rfl (qin_full _).1 (qin_full _).2 rfl (fun h2317 hg2317 hl2317 hs2317 ho2317 => ?_)
  have ho2317 : hO 52 0 h h2317 := ho2317
  have hs2317 : hsl h2317 52 0 = some (zi y2316) := hs2317
  refine y_same (i := .aload_n 0) (len := 1) (r := (0, 0, 0, 0)) (pc' := 6) (ls' := [some (.inl (some 52)), some (zi x), some (zi xk)]) (st' := [.inl (some 52)]) (by decide +kernel) (fun k q => by cases q) rfl ?_
  refine y_same (i := .iload_n 1) (len := 1) (r := (0, 0, 0, 0)) (pc' := 7) (ls' := [some (.inl (some 52)), some (zi x), some (zi xk)]) (st' := [zi x, .inl (some 52)]) (by decide +kernel) (fun k q => by cases q) rfl ?_
  refine y_ic (c := 0) (len := 1) (r := (0, 0, 0, 0)) (by decide +kernel) (by decide) (fun y2318 hy2318 => ?_)
  refine y_ic (c := 1) (len := 1) (r := (0, 0, 0, 0)) (by decide +kernel) (by decide) (fun y2319 hy2319 => ?_)
  refine y_cI (i := .invokestatic 200) (len := 3) (r := (1, 162, 12, 1486)) (nL := 3) (k := 2) (n := 3) (hs := []) (args := [zi x, zi y2318, zi y2319]) (rest := [.inl (some 52)]) (l0 := [some (zi x), some (zi y2318), some (zi y2319)]) (by decide +kernel) (Or.inl ⟨_, rfl⟩) rfl rfl rfl rfl (Nat.le_of_ble_eq_true rfl) rfl rfl (qI_le (by decide) (m_in (d := 0) (by omega) (by omega))) (fun y2320 qy2320 hRy2320 => ?_)
  obtain ⟨rfl, hy2320⟩ := hRy2320
  refine y_iF (c := .eq) (off := 29) (len := 3) (r := (0, 0, 0, 0)) (by decide +kernel) (acmpF (c := .eq) (by show ¬ (_ = _); omega)) ?_
  refine y_same (i := .iload_n 2) (len := 1) (r := (0, 0, 0, 0)) (pc' := 16) (ls' := [some (.inl (some 52)), some (zi x), some (zi xk)]) (st' := [zi xk, .inl (some 52)]) (by decide +kernel) (fun k q => by cases q) rfl ?_
  refine y_ic (c := 0) (len := 1) (r := (0, 0, 0, 0)) (by decide +kernel) (by decide) (fun y2321 hy2321 => ?_)
  refine y_same (i := .aload_n 0) (len := 1) (r := (0, 0, 0, 0)) (pc' := 18) (ls' := [some (.inl (some 52)), some (zi x), some (zi xk)]) (st' := [.inl (some 52), zi y2321, zi xk, .inl (some 52)]) (by decide +kernel) (fun k q => by cases q) rfl ?_
  refine y_get (j := 20) (len := 3) (r := (12, 9, 2, 1337)) (by decide +kernel) hg2317 (t52 hg2317) at52 rfl rfl (g_r52 (f := 9) (T2 := 55) hg2317 rfl (by decide)).1 ?_
  refine y_ic (c := 1) (len := 1) (r := (0, 0, 0, 0)) (by decide +kernel) (by decide) (fun y2322 hy2322 => ?_)
  refine y_ic (c := 0) (len := 1) (r := (0, 0, 0, 0)) (by decide +kernel) (by decide) (fun y2323 hy2323 => ?_)
  refine y_same (i := .iload_n 1) (len := 1) (r := (0, 0, 0, 0)) (pc' := 24) (ls' := [some (.inl (some 52)), some (zi x), some (zi xk)]) (st' := [zi x, zi y2323, zi y2322, .inl (some 55), zi y2321, zi xk, .inl (some 52)]) (by decide +kernel) (fun k q => by cases q) rfl ?_
  refine y_cI (i := .invokestatic 230) (len := 3) (r := (1, 164, 12, 1591)) (nL := 2) (k := 1) (n := 2) (hs := []) (args := [zi y2323, zi x]) (rest := [zi y2322, .inl (some 55), zi y2321, zi xk, .inl (some 52)]) (l0 := [some (zi y2323), some (zi x)]) (by decide +kernel) (Or.inl ⟨_, rfl⟩) rfl rfl rfl rfl (Nat.le_of_ble_eq_true rfl) rfl rfl (qI_le (by decide) (e_more (d := 0))) (fun y2324 qy2324 hRy2324 => ?_)
  obtain ⟨rfl, my2324, ny2324⟩ := hRy2324
  have ey2324 : y2324.toInt = 0 := by omega
  refine y_cI (i := .invokestatic 233) (len := 3) (r := (1, 163, 12, 1594)) (nL := 2) (k := 1) (n := 2) (hs := []) (args := [zi y2322, zi y2324]) (rest := [.inl (some 55), zi y2321, zi xk, .inl (some 52)]) (l0 := [some (zi y2322), some (zi y2324)]) (by decide +kernel) (Or.inl ⟨_, rfl⟩) rfl rfl rfl rfl (Nat.le_of_ble_eq_true rfl) rfl rfl (qI_le (by decide) (e_less (d := 0))) (fun y2325 qy2325 hRy2325 => ?_)
  obtain ⟨rfl, my2325, ny2325⟩ := hRy2325
  have ey2325 : y2325.toInt = 0 := by omega
  have hv2327 := (ho2317 55 1 (Or.inl (by omega))).trans hc0z
  refine y_cI (i := .invokestatic 155) (len := 3) (r := (1, 167, 12, 1560)) (nL := 2) (k := 1) (n := 2) (hs := []) (args := [.inl (some 55), zi y2325]) (rest := [zi y2321, zi xk, .inl (some 52)]) (l0 := [some (.inl (some 55)), some (zi y2325)]) (by decide +kernel) (Or.inl ⟨_, rfl⟩) rfl rfl rfl rfl (Nat.le_of_ble_eq_true rfl) rfl rfl (qI_le (by decide) (m_claims (d := 0) (s := 0) hg2317 (by omega) (by omega) hv2327)) (fun y2326 qy2326 hRy2326 => ?_)
  obtain ⟨rfl, rfl⟩ := hRy2326
  refine y_ic (c := 1) (len := 1) (r := (0, 0, 0, 0)) (by decide +kernel) (by decide) (fun y2328 hy2328 => ?_)
  refine y_sub (len := 1) (r := (0, 0, 0, 0)) (by decide +kernel) (by omega) (by omega) (fun y2329 hy2329 => ?_)
  refine y_cI (i := .invokestatic 200) (len := 3) (r := (1, 162, 12, 1486)) (nL := 3) (k := 2) (n := 3) (hs := []) (args := [zi xk, zi y2321, zi y2329]) (rest := [.inl (some 52)]) (l0 := [some (zi xk), some (zi y2321), some (zi y2329)]) (by decide +kernel) (Or.inl ⟨_, rfl⟩) rfl rfl rfl rfl (Nat.le_of_ble_eq_true rfl) rfl rfl (qI_le (by decide) (m_in0 (d := 0) (by omega))) (fun y2330 qy2330 hRy2330 => ?_)
  obtain ⟨rfl, hy2330⟩ := hRy2330
  refine y_iF (c := .ne) (off := 7) (len := 3) (r := (0, 0, 0, 0)) (by decide +kernel) (acmpF (c := .ne) (by show _ = _; omega)) ?_
  refine y_ic (c := 1) (len := 1) (r := (0, 0, 0, 0)) (by decide +kernel) (by decide) (fun y2331 hy2331 => ?_)
  refine y_goto (off := 4) (pc' := 46) (len := 3) (r := (0, 0, 0, 0)) (by decide +kernel) (by decide +kernel) ?_
  refine y_ic (c := 1) (len := 1) (r := (0, 0, 0, 0)) (by decide +kernel) (by decide) (fun y2332 hy2332 => ?_)
  refine y_ic (c := 0) (len := 1) (r := (0, 0, 0, 0)) (by decide +kernel) (by decide) (fun y2333 hy2333 => ?_)
  refine y_cI (i := .invokevirtual 204) (len := 3) (r := (0, 161, 12, 1489)) (nL := 4) (k := 2) (n := 4) (hs := []) (args := [.inl (some 52), zi y2331, zi y2332, zi y2333]) (rest := []) (l0 := [some (.inl (some 52)), some (zi y2331), some (zi y2332), some (zi y2333)]) (by decide +kernel) (Or.inr (Or.inl ⟨_, rfl⟩)) rfl rfl rfl rfl (Nat.le_of_ble_eq_true rfl) (z52 hg2317) rfl (qI_le (by decide) (m_bad1 (d := 0) (e := 0) hg2317 (by omega) (by omega) (by omega) (by omega) hs2317 (by omega))) (fun y2334 h2334 hRy2334 => ?_)
  obtain ⟨hg2334, hy2334, ⟨z2334, hz2334, ez2334⟩, F2334⟩ := hRy2334
  refine y_iF (c := .eq) (off := 5) (len := 3) (r := (0, 0, 0, 0)) (by decide +kernel) (acmpF (c := .eq) (by show ¬ (_ = _); omega)) ?_
  refine y_ic (c := 0) (len := 1) (r := (0, 0, 0, 0)) (by decide +kernel) (by decide) (fun y2335 hy2335 => ?_)
  refine y_rI (len := 1) (r := (0, 0, 0, 0)) (nL := 3) (k := 1) (n9 := 3) (hs := []) (by decide +kernel) rfl rfl ?_
  exact ⟨_, hg2334, RM_up rm (fun k j hC => ((F2334 k j (by omega)).trans (ho2317 k j (by omega)))), fun k j hC => ((F2334 k j (by omega)).trans (ho2317 k j (by omega))), _, hz2334, by omega⟩
theorem m_forgetT1 {t : Nat} {τ : List Nat} {h : zh} {cur : bsT} {hs : List bsT} {x xk : Int32} (hg : hG τ h) (rm : RM h cur hs) (hx : x.toInt = 1) (hk : ¬ (0 ≤ xk.toInt ∧ xk.toInt < (cur.2.2.length : Int))) : qI 60 191 [some (.inl (some 52)), some (zi x), some (zi xk)] h t (fun y h1 => ∃ τ1, hG τ1 h1 ∧ RM h1 cur hs ∧ frM h h1 ∧ ∃ z : Int32, hsl h1 52 0 = some (zi z) ∧ z.toInt = 1) := by
  refine qI_le (d := 21) (by decide) (qI_of ?_)
  have lz := len55 hg rm.1
  obtain ⟨⟨xp0z, hp0z, ep0z⟩, ⟨xc0z, hc0z, ec0z⟩, ip0z, ic0z⟩ := rm.1.1
  obtain ⟨⟨xp1z, hp1z, ep1z⟩, ⟨xc1z, hc1z, ec1z⟩, ip1z, ic1z⟩ := rm.1.2
  refine y_same (i := .aload_n 0) (len := 1) (r := (0, 0, 0, 0)) (pc' := 1) (ls' := [some (.inl (some 52)), some (zi x), some (zi xk)]) (st' := [.inl (some 52)]) (by decide +kernel) (fun k q => by cases q) rfl ?_
  refine y_ic (c := 0) (len := 1) (r := (0, 0, 0, 0)) (by decide +kernel) (by decide) (fun y2336 hy2336 => ?_)
  refine y_put (j := 92) (lo := (-2147483648)) (hi := 2147483647) (len := 3) (r := (12, 0, 0, 1328)) (by decide +kernel) hg (t52 hg) at52 rfl rfl (by decide) rfl (qin_full _).1 (qin_full _).2 rfl (fun h2337 hg2337 hl2337 hs2337 ho2337 => ?_)
  have ho2337 : hO 52 0 h h2337 := ho2337
  have hs2337 : hsl h2337 52 0 = some (zi y2336) := hs2337
  refine y_same (i := .aload_n 0) (len := 1) (r := (0, 0, 0, 0)) (pc' := 6) (ls' := [some (.inl (some 52)), some (zi x), some (zi xk)]) (st' := [.inl (some 52)]) (by decide +kernel) (fun k q => by cases q) rfl ?_
  refine y_same (i := .iload_n 1) (len := 1) (r := (0, 0, 0, 0)) (pc' := 7) (ls' := [some (.inl (some 52)), some (zi x), some (zi xk)]) (st' := [zi x, .inl (some 52)]) (by decide +kernel) (fun k q => by cases q) rfl ?_
  refine y_ic (c := 0) (len := 1) (r := (0, 0, 0, 0)) (by decide +kernel) (by decide) (fun y2338 hy2338 => ?_)
  refine y_ic (c := 1) (len := 1) (r := (0, 0, 0, 0)) (by decide +kernel) (by decide) (fun y2339 hy2339 => ?_)
  refine y_cI (i := .invokestatic 200) (len := 3) (r := (1, 162, 12, 1486)) (nL := 3) (k := 2) (n := 3) (hs := []) (args := [zi x, zi y2338, zi y2339]) (rest := [.inl (some 52)]) (l0 := [some (zi x), some (zi y2338), some (zi y2339)]) (by decide +kernel) (Or.inl ⟨_, rfl⟩) rfl rfl rfl rfl (Nat.le_of_ble_eq_true rfl) rfl rfl (qI_le (by decide) (m_in (d := 0) (by omega) (by omega))) (fun y2340 qy2340 hRy2340 => ?_)
  obtain ⟨rfl, hy2340⟩ := hRy2340
  refine y_iF (c := .eq) (off := 29) (len := 3) (r := (0, 0, 0, 0)) (by decide +kernel) (acmpF (c := .eq) (by show ¬ (_ = _); omega)) ?_
  refine y_same (i := .iload_n 2) (len := 1) (r := (0, 0, 0, 0)) (pc' := 16) (ls' := [some (.inl (some 52)), some (zi x), some (zi xk)]) (st' := [zi xk, .inl (some 52)]) (by decide +kernel) (fun k q => by cases q) rfl ?_
  refine y_ic (c := 0) (len := 1) (r := (0, 0, 0, 0)) (by decide +kernel) (by decide) (fun y2341 hy2341 => ?_)
  refine y_same (i := .aload_n 0) (len := 1) (r := (0, 0, 0, 0)) (pc' := 18) (ls' := [some (.inl (some 52)), some (zi x), some (zi xk)]) (st' := [.inl (some 52), zi y2341, zi xk, .inl (some 52)]) (by decide +kernel) (fun k q => by cases q) rfl ?_
  refine y_get (j := 20) (len := 3) (r := (12, 9, 2, 1337)) (by decide +kernel) hg2337 (t52 hg2337) at52 rfl rfl (g_r52 (f := 9) (T2 := 55) hg2337 rfl (by decide)).1 ?_
  refine y_ic (c := 1) (len := 1) (r := (0, 0, 0, 0)) (by decide +kernel) (by decide) (fun y2342 hy2342 => ?_)
  refine y_ic (c := 0) (len := 1) (r := (0, 0, 0, 0)) (by decide +kernel) (by decide) (fun y2343 hy2343 => ?_)
  refine y_same (i := .iload_n 1) (len := 1) (r := (0, 0, 0, 0)) (pc' := 24) (ls' := [some (.inl (some 52)), some (zi x), some (zi xk)]) (st' := [zi x, zi y2343, zi y2342, .inl (some 55), zi y2341, zi xk, .inl (some 52)]) (by decide +kernel) (fun k q => by cases q) rfl ?_
  refine y_cI (i := .invokestatic 230) (len := 3) (r := (1, 164, 12, 1591)) (nL := 2) (k := 1) (n := 2) (hs := []) (args := [zi y2343, zi x]) (rest := [zi y2342, .inl (some 55), zi y2341, zi xk, .inl (some 52)]) (l0 := [some (zi y2343), some (zi x)]) (by decide +kernel) (Or.inl ⟨_, rfl⟩) rfl rfl rfl rfl (Nat.le_of_ble_eq_true rfl) rfl rfl (qI_le (by decide) (e_more (d := 0))) (fun y2344 qy2344 hRy2344 => ?_)
  obtain ⟨rfl, my2344, ny2344⟩ := hRy2344
  have ey2344 : y2344.toInt = 1 := by omega
  refine y_cI (i := .invokestatic 233) (len := 3) (r := (1, 163, 12, 1594)) (nL := 2) (k := 1) (n := 2) (hs := []) (args := [zi y2342, zi y2344]) (rest := [.inl (some 55), zi y2341, zi xk, .inl (some 52)]) (l0 := [some (zi y2342), some (zi y2344)]) (by decide +kernel) (Or.inl ⟨_, rfl⟩) rfl rfl rfl rfl (Nat.le_of_ble_eq_true rfl) rfl rfl (qI_le (by decide) (e_less (d := 0))) (fun y2345 qy2345 hRy2345 => ?_)
  obtain ⟨rfl, my2345, ny2345⟩ := hRy2345
  have ey2345 : y2345.toInt = 1 := by omega
  have hv2347 := (ho2337 55 47 (Or.inl (by omega))).trans hc1z
  refine y_cI (i := .invokestatic 155) (len := 3) (r := (1, 167, 12, 1560)) (nL := 2) (k := 1) (n := 2) (hs := []) (args := [.inl (some 55), zi y2345]) (rest := [zi y2341, zi xk, .inl (some 52)]) (l0 := [some (.inl (some 55)), some (zi y2345)]) (by decide +kernel) (Or.inl ⟨_, rfl⟩) rfl rfl rfl rfl (Nat.le_of_ble_eq_true rfl) rfl rfl (qI_le (by decide) (m_claims (d := 0) (s := 1) hg2337 (by omega) (by omega) hv2347)) (fun y2346 qy2346 hRy2346 => ?_)
  obtain ⟨rfl, rfl⟩ := hRy2346
  refine y_ic (c := 1) (len := 1) (r := (0, 0, 0, 0)) (by decide +kernel) (by decide) (fun y2348 hy2348 => ?_)
  refine y_sub (len := 1) (r := (0, 0, 0, 0)) (by decide +kernel) (by omega) (by omega) (fun y2349 hy2349 => ?_)
  refine y_cI (i := .invokestatic 200) (len := 3) (r := (1, 162, 12, 1486)) (nL := 3) (k := 2) (n := 3) (hs := []) (args := [zi xk, zi y2341, zi y2349]) (rest := [.inl (some 52)]) (l0 := [some (zi xk), some (zi y2341), some (zi y2349)]) (by decide +kernel) (Or.inl ⟨_, rfl⟩) rfl rfl rfl rfl (Nat.le_of_ble_eq_true rfl) rfl rfl (qI_le (by decide) (m_in0 (d := 0) (by omega))) (fun y2350 qy2350 hRy2350 => ?_)
  obtain ⟨rfl, hy2350⟩ := hRy2350
  refine y_iF (c := .ne) (off := 7) (len := 3) (r := (0, 0, 0, 0)) (by decide +kernel) (acmpF (c := .ne) (by show _ = _; omega)) ?_
  refine y_ic (c := 1) (len := 1) (r := (0, 0, 0, 0)) (by decide +kernel) (by decide) (fun y2351 hy2351 => ?_)
  refine y_goto (off := 4) (pc' := 46) (len := 3) (r := (0, 0, 0, 0)) (by decide +kernel) (by decide +kernel) ?_
  refine y_ic (c := 1) (len := 1) (r := (0, 0, 0, 0)) (by decide +kernel) (by decide) (fun y2352 hy2352 => ?_)
  refine y_ic (c := 0) (len := 1) (r := (0, 0, 0, 0)) (by decide +kernel) (by decide) (fun y2353 hy2353 => ?_)
  refine y_cI (i := .invokevirtual 204) (len := 3) (r := (0, 161, 12, 1489)) (nL := 4) (k := 2) (n := 4) (hs := []) (args := [.inl (some 52), zi y2351, zi y2352, zi y2353]) (rest := []) (l0 := [some (.inl (some 52)), some (zi y2351), some (zi y2352), some (zi y2353)]) (by decide +kernel) (Or.inr (Or.inl ⟨_, rfl⟩)) rfl rfl rfl rfl (Nat.le_of_ble_eq_true rfl) (z52 hg2337) rfl (qI_le (by decide) (m_bad1 (d := 0) (e := 0) hg2337 (by omega) (by omega) (by omega) (by omega) hs2337 (by omega))) (fun y2354 h2354 hRy2354 => ?_)
  obtain ⟨hg2354, hy2354, ⟨z2354, hz2354, ez2354⟩, F2354⟩ := hRy2354
  refine y_iF (c := .eq) (off := 5) (len := 3) (r := (0, 0, 0, 0)) (by decide +kernel) (acmpF (c := .eq) (by show ¬ (_ = _); omega)) ?_
  refine y_ic (c := 0) (len := 1) (r := (0, 0, 0, 0)) (by decide +kernel) (by decide) (fun y2355 hy2355 => ?_)
  refine y_rI (len := 1) (r := (0, 0, 0, 0)) (nL := 3) (k := 1) (n9 := 3) (hs := []) (by decide +kernel) rfl rfl ?_
  exact ⟨_, hg2354, RM_up rm (fun k j hC => ((F2354 k j (by omega)).trans (ho2337 k j (by omega)))), fun k j hC => ((F2354 k j (by omega)).trans (ho2337 k j (by omega))), _, hz2354, by omega⟩
theorem m_forgetT {t : Nat} {τ : List Nat} {h : zh} {cur : bsT} {hs : List bsT} {x xk : Int32} (hg : hG τ h) (rm : RM h cur hs) (hx : ¬ (x.toInt = 0 ∨ x.toInt = 1)) : qI 60 191 [some (.inl (some 52)), some (zi x), some (zi xk)] h t (fun y h1 => ∃ τ1, hG τ1 h1 ∧ RM h1 cur hs ∧ frM h h1 ∧ ∃ z : Int32, hsl h1 52 0 = some (zi z) ∧ z.toInt = 1) := by
  refine qI_le (d := 21) (by decide) (qI_of ?_)
  have lz := len55 hg rm.1
  obtain ⟨⟨xp0z, hp0z, ep0z⟩, ⟨xc0z, hc0z, ec0z⟩, ip0z, ic0z⟩ := rm.1.1
  obtain ⟨⟨xp1z, hp1z, ep1z⟩, ⟨xc1z, hc1z, ec1z⟩, ip1z, ic1z⟩ := rm.1.2
  refine y_same (i := .aload_n 0) (len := 1) (r := (0, 0, 0, 0)) (pc' := 1) (ls' := [some (.inl (some 52)), some (zi x), some (zi xk)]) (st' := [.inl (some 52)]) (by decide +kernel) (fun k q => by cases q) rfl ?_
  refine y_ic (c := 0) (len := 1) (r := (0, 0, 0, 0)) (by decide +kernel) (by decide) (fun y2356 hy2356 => ?_)
  refine y_put (j := 92) (lo := (-2147483648)) (hi := 2147483647) (len := 3) (r := (12, 0, 0, 1328)) (by decide +kernel) hg (t52 hg) at52 rfl rfl (by decide) rfl (qin_full _).1 (qin_full _).2 rfl (fun h2357 hg2357 hl2357 hs2357 ho2357 => ?_)
  have ho2357 : hO 52 0 h h2357 := ho2357
  have hs2357 : hsl h2357 52 0 = some (zi y2356) := hs2357
  refine y_same (i := .aload_n 0) (len := 1) (r := (0, 0, 0, 0)) (pc' := 6) (ls' := [some (.inl (some 52)), some (zi x), some (zi xk)]) (st' := [.inl (some 52)]) (by decide +kernel) (fun k q => by cases q) rfl ?_
  refine y_same (i := .iload_n 1) (len := 1) (r := (0, 0, 0, 0)) (pc' := 7) (ls' := [some (.inl (some 52)), some (zi x), some (zi xk)]) (st' := [zi x, .inl (some 52)]) (by decide +kernel) (fun k q => by cases q) rfl ?_
  refine y_ic (c := 0) (len := 1) (r := (0, 0, 0, 0)) (by decide +kernel) (by decide) (fun y2358 hy2358 => ?_)
  refine y_ic (c := 1) (len := 1) (r := (0, 0, 0, 0)) (by decide +kernel) (by decide) (fun y2359 hy2359 => ?_)
  refine y_cI (i := .invokestatic 200) (len := 3) (r := (1, 162, 12, 1486)) (nL := 3) (k := 2) (n := 3) (hs := []) (args := [zi x, zi y2358, zi y2359]) (rest := [.inl (some 52)]) (l0 := [some (zi x), some (zi y2358), some (zi y2359)]) (by decide +kernel) (Or.inl ⟨_, rfl⟩) rfl rfl rfl rfl (Nat.le_of_ble_eq_true rfl) rfl rfl (qI_le (by decide) (m_in0 (d := 0) (by omega))) (fun y2360 qy2360 hRy2360 => ?_)
  obtain ⟨rfl, hy2360⟩ := hRy2360
  refine y_iT (c := .eq) (off := 29) (pc' := 41) (len := 3) (r := (0, 0, 0, 0)) (by decide +kernel) (acmpT (c := .eq) (by show _ = _; omega)) (by decide +kernel) ?_
  refine y_ic (c := 1) (len := 1) (r := (0, 0, 0, 0)) (by decide +kernel) (by decide) (fun y2361 hy2361 => ?_)
  refine y_goto (off := 4) (pc' := 46) (len := 3) (r := (0, 0, 0, 0)) (by decide +kernel) (by decide +kernel) ?_
  refine y_ic (c := 1) (len := 1) (r := (0, 0, 0, 0)) (by decide +kernel) (by decide) (fun y2362 hy2362 => ?_)
  refine y_ic (c := 0) (len := 1) (r := (0, 0, 0, 0)) (by decide +kernel) (by decide) (fun y2363 hy2363 => ?_)
  refine y_cI (i := .invokevirtual 204) (len := 3) (r := (0, 161, 12, 1489)) (nL := 4) (k := 2) (n := 4) (hs := []) (args := [.inl (some 52), zi y2361, zi y2362, zi y2363]) (rest := []) (l0 := [some (.inl (some 52)), some (zi y2361), some (zi y2362), some (zi y2363)]) (by decide +kernel) (Or.inr (Or.inl ⟨_, rfl⟩)) rfl rfl rfl rfl (Nat.le_of_ble_eq_true rfl) (z52 hg2357) rfl (qI_le (by decide) (m_bad1 (d := 0) (e := 0) hg2357 (by omega) (by omega) (by omega) (by omega) hs2357 (by omega))) (fun y2364 h2364 hRy2364 => ?_)
  obtain ⟨hg2364, hy2364, ⟨z2364, hz2364, ez2364⟩, F2364⟩ := hRy2364
  refine y_iF (c := .eq) (off := 5) (len := 3) (r := (0, 0, 0, 0)) (by decide +kernel) (acmpF (c := .eq) (by show ¬ (_ = _); omega)) ?_
  refine y_ic (c := 0) (len := 1) (r := (0, 0, 0, 0)) (by decide +kernel) (by decide) (fun y2365 hy2365 => ?_)
  refine y_rI (len := 1) (r := (0, 0, 0, 0)) (nL := 3) (k := 1) (n9 := 3) (hs := []) (by decide +kernel) rfl rfl ?_
  exact ⟨_, hg2364, RM_up rm (fun k j hC => ((F2364 k j (by omega)).trans (ho2357 k j (by omega)))), fun k j hC => ((F2364 k j (by omega)).trans (ho2357 k j (by omega))), _, hz2364, by omega⟩
theorem m_forgetX {t : Nat} {τ : List Nat} {h : zh} {cur : bsT} {hs : List bsT} {x xk : Int32} (hg : hG τ h) (rm : RM h cur hs) (hb : ¬ ((x.toInt = 0 ∧ 0 ≤ xk.toInt ∧ xk.toInt < (cur.1.2.length : Int)) ∨ (x.toInt = 1 ∧ 0 ≤ xk.toInt ∧ xk.toInt < (cur.2.2.length : Int)))) : qI 60 191 [some (.inl (some 52)), some (zi x), some (zi xk)] h t (fun y h1 => ∃ τ1, hG τ1 h1 ∧ RM h1 cur hs ∧ frM h h1 ∧ ∃ z : Int32, hsl h1 52 0 = some (zi z) ∧ z.toInt = 1) := by
  rcases Decidable.em (x.toInt = 0) with q | q
  · exact m_forgetT0 hg rm q (by omega)
  · rcases Decidable.em (x.toInt = 1) with q1 | q1
    · exact m_forgetT1 hg rm q1 (by omega)
    · exact m_forgetT hg rm (by omega)
