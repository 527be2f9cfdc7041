/-! the words -/
def wl_ (w : Nat) : List Nat := ([[114, 101, 97, 99, 104], [109, 101, 115, 104], [115, 116, 114, 105, 107, 101], [109, 97, 121], [110, 111, 116], [102, 105, 115, 104], [115, 116, 111, 112], [99, 117, 116], [108, 101, 97, 110], [108, 97, 110, 100], [105, 102], [117, 110, 108, 101, 115, 115], [111, 114], [97, 110, 100], [110, 111], [109, 105, 110, 117, 116, 101], [120], [121], [100, 101, 112, 116, 104], [115, 105, 100, 101], [107, 105, 110, 100], [110, 101, 116], [115, 112, 101, 101, 100], [105, 110, 115, 105, 100, 101]] : List (List Nat)).getD w []
def wc_ (w : Nat) : Nat := ([491327153000, 1835365224, 126943972911973, 7168377, 7237492, 1718186856, 1937010544, 6518132, 1818583406, 1818324580, 26982, 129117125440371, 28530, 6385252, 28271, 120299592184933, 120, 121, 431198598248, 1936286821, 1802071652, 7234932, 495806932324, 115923103605861] : List Nat).getD w 0
set_option maxHeartbeats 200000 in
theorem wdC_all : ∀ w, w < 24 → srLen.getD w 0 = (wl_ w).length ∧ (wl_ w).length < 20 ∧ (∀ c ∈ wl_ w, c < 256) ∧ ∀ i, i < (wl_ w).length → vp_nar .char (srCh w (nI i)) = nI ((wl_ w).getD i 0) := by decide
set_option maxHeartbeats 200000 in
theorem wdM_all : ∀ w, w < 24 → 0 < (wl_ w).length ∧ (wl_ w).length < 8 ∧ (∀ c ∈ wl_ w, 0 < c ∧ c < 256) ∧ wc_ w = pkr (wl_ w).reverse := by decide
set_option maxHeartbeats 200000 in
theorem wdC {w : Nat} (h : w < 24) : WdC w (wl_ w) := wdC_all w h
set_option maxHeartbeats 200000 in
theorem wdM {w : Nat} (h : w < 24) : WdM (wc_ w) (wl_ w) := wdM_all w h
