/-! cock: class and reference answer the same, by hand, printed by wip/x/h_zycock.py; the two tables as they are, checked cell by cell -/
def ycC_2 : List Nat := [0, 2, 6, 0, 2, 6, 0, 2, 6, 0, 2, 6, 0, 2, 6, 0, 2, 6, 0, 2, 6, 0, 2, 6, 0, 2, 6, 0, 2, 6, 0, 2, 6, 0, 2, 6, 0, 2, 6, 0, 2, 6, 0, 2, 6, 0, 2, 6, 0, 2, 6, 0, 2, 6, 0, 2, 6, 0, 2, 6, 0]
def ycR_2 : List (List Nat) := [[0, 0, 0, 0, 0, 0, 0, 0, 0, 0], [1, 0, 1, 1, 1, 1, 1, 1, 1, 1], [1, 2, 1, 1, 1, 1, 1, 1, 1, 1], [0, 0, 0, 0, 0, 0, 0, 0, 0, 0], [1, 0, 1, 1, 1, 1, 1, 1, 1, 1], [1, 2, 1, 1, 1, 1, 1, 1, 1, 1], [0, 0, 0, 0, 0, 0, 0, 0, 0, 0], [1, 0, 1, 1, 1, 1, 1, 1, 1, 1], [1, 2, 1, 1, 1, 1, 1, 1, 1, 1], [0, 0, 0, 0, 0, 0, 0, 0, 0, 0], [1, 0, 1, 1, 1, 1, 1, 1, 1, 1], [1, 2, 1, 1, 1, 1, 1, 1, 1, 1], [0, 0, 0, 0, 0, 0, 0, 0, 0, 0], [1, 0, 1, 1, 1, 1, 1, 1, 1, 1], [1, 2, 1, 1, 1, 1, 1, 1, 1, 1], [0, 0, 0, 0, 0, 0, 0, 0, 0, 0], [1, 0, 1, 1, 1, 1, 1, 1, 1, 1], [1, 2, 1, 1, 1, 1, 1, 1, 1, 1], [0, 0, 0, 0, 0, 0, 0, 0, 0, 0], [1, 0, 1, 1, 1, 1, 1, 1, 1, 1], [1, 2, 1, 1, 1, 1, 1, 1, 1, 1], [0, 0, 0, 0, 0, 0, 0, 0, 0, 0], [1, 0, 1, 1, 1, 1, 1, 1, 1, 1], [1, 2, 1, 1, 1, 1, 1, 1, 1, 1], [0, 0, 0, 0, 0, 0, 0, 0, 0, 0], [1, 0, 1, 1, 1, 1, 1, 1, 1, 1], [1, 2, 1, 1, 1, 1, 1, 1, 1, 1], [0, 0, 0, 0, 0, 0, 0, 0, 0, 0], [1, 0, 1, 1, 1, 1, 1, 1, 1, 1], [1, 2, 1, 1, 1, 1, 1, 1, 1, 1], [0, 0, 0, 0, 0, 0, 0, 0, 0, 0], [1, 0, 1, 1, 1, 1, 1, 1, 1, 1], [1, 2, 1, 1, 1, 1, 1, 1, 1, 1], [0, 0, 0, 0, 0, 0, 0, 0, 0, 0], [1, 0, 1, 1, 1, 1, 1, 1, 1, 1], [1, 2, 1, 1, 1, 1, 1, 1, 1, 1], [0, 0, 0, 0, 0, 0, 0, 0, 0, 0], [1, 0, 1, 1, 1, 1, 1, 1, 1, 1], [1, 2, 1, 1, 1, 1, 1, 1, 1, 1], [0, 0, 0, 0, 0, 0, 0, 0, 0, 0], [1, 0, 1, 1, 1, 1, 1, 1, 1, 1], [1, 2, 1, 1, 1, 1, 1, 1, 1, 1], [0, 0, 0, 0, 0, 0, 0, 0, 0, 0], [1, 0, 1, 1, 1, 1, 1, 1, 1, 1], [1, 2, 1, 1, 1, 1, 1, 1, 1, 1], [0, 0, 0, 0, 0, 0, 0, 0, 0, 0], [1, 0, 1, 1, 1, 1, 1, 1, 1, 1], [1, 2, 1, 1, 1, 1, 1, 1, 1, 1], [0, 0, 0, 0, 0, 0, 0, 0, 0, 0], [1, 0, 1, 1, 1, 1, 1, 1, 1, 1], [1, 2, 1, 1, 1, 1, 1, 1, 1, 1], [0, 0, 0, 0, 0, 0, 0, 0, 0, 0], [1, 0, 1, 1, 1, 1, 1, 1, 1, 1], [1, 2, 1, 1, 1, 1, 1, 1, 1, 1], [0, 0, 0, 0, 0, 0, 0, 0, 0, 0], [1, 0, 1, 1, 1, 1, 1, 1, 1, 1], [1, 2, 1, 1, 1, 1, 1, 1, 1, 1], [0, 0, 0, 0, 0, 0, 0, 0, 0, 0], [1, 0, 1, 1, 1, 1, 1, 1, 1, 1], [1, 2, 1, 1, 1, 1, 1, 1, 1, 1], [0, 0, 0, 0, 0, 0, 0, 0, 0, 0]]
def ycC_3 : List Nat := [0, 2, 6, 8, 0, 2, 14, 8, 0, 2, 14, 8, 0, 2, 14, 8, 0, 2, 14, 8, 0, 2, 14, 8, 0, 2, 14, 8, 0, 2, 14, 8, 0, 2, 14, 8, 0, 2, 14, 8, 0, 2, 14, 8, 0, 2, 14, 8, 0, 2, 14, 8, 0, 2, 14, 8, 0, 2, 14, 8, 0]
def ycR_3 : List (List Nat) := [[0, 0, 0, 0, 0, 0, 0, 0, 0, 0], [1, 0, 1, 1, 1, 1, 1, 1, 1, 1], [1, 2, 1, 1, 1, 1, 1, 1, 1, 1], [3, 3, 3, 0, 3, 3, 3, 3, 3, 3], [0, 0, 0, 0, 0, 0, 0, 0, 0, 0], [1, 0, 1, 1, 1, 1, 1, 1, 1, 1], [1, 2, 1, 1, 1, 1, 1, 1, 1, 1], [3, 3, 3, 0, 3, 3, 3, 3, 3, 3], [0, 0, 0, 0, 0, 0, 0, 0, 0, 0], [1, 0, 1, 1, 1, 1, 1, 1, 1, 1], [1, 2, 1, 1, 1, 1, 1, 1, 1, 1], [3, 3, 3, 0, 3, 3, 3, 3, 3, 3], [0, 0, 0, 0, 0, 0, 0, 0, 0, 0], [1, 0, 1, 1, 1, 1, 1, 1, 1, 1], [1, 2, 1, 1, 1, 1, 1, 1, 1, 1], [3, 3, 3, 0, 3, 3, 3, 3, 3, 3], [0, 0, 0, 0, 0, 0, 0, 0, 0, 0], [1, 0, 1, 1, 1, 1, 1, 1, 1, 1], [1, 2, 1, 1, 1, 1, 1, 1, 1, 1], [3, 3, 3, 0, 3, 3, 3, 3, 3, 3], [0, 0, 0, 0, 0, 0, 0, 0, 0, 0], [1, 0, 1, 1, 1, 1, 1, 1, 1, 1], [1, 2, 1, 1, 1, 1, 1, 1, 1, 1], [3, 3, 3, 0, 3, 3, 3, 3, 3, 3], [0, 0, 0, 0, 0, 0, 0, 0, 0, 0], [1, 0, 1, 1, 1, 1, 1, 1, 1, 1], [1, 2, 1, 1, 1, 1, 1, 1, 1, 1], [3, 3, 3, 0, 3, 3, 3, 3, 3, 3], [0, 0, 0, 0, 0, 0, 0, 0, 0, 0], [1, 0, 1, 1, 1, 1, 1, 1, 1, 1], [1, 2, 1, 1, 1, 1, 1, 1, 1, 1], [3, 3, 3, 0, 3, 3, 3, 3, 3, 3], [0, 0, 0, 0, 0, 0, 0, 0, 0, 0], [1, 0, 1, 1, 1, 1, 1, 1, 1, 1], [1, 2, 1, 1, 1, 1, 1, 1, 1, 1], [3, 3, 3, 0, 3, 3, 3, 3, 3, 3], [0, 0, 0, 0, 0, 0, 0, 0, 0, 0], [1, 0, 1, 1, 1, 1, 1, 1, 1, 1], [1, 2, 1, 1, 1, 1, 1, 1, 1, 1], [3, 3, 3, 0, 3, 3, 3, 3, 3, 3], [0, 0, 0, 0, 0, 0, 0, 0, 0, 0], [1, 0, 1, 1, 1, 1, 1, 1, 1, 1], [1, 2, 1, 1, 1, 1, 1, 1, 1, 1], [3, 3, 3, 0, 3, 3, 3, 3, 3, 3], [0, 0, 0, 0, 0, 0, 0, 0, 0, 0], [1, 0, 1, 1, 1, 1, 1, 1, 1, 1], [1, 2, 1, 1, 1, 1, 1, 1, 1, 1], [3, 3, 3, 0, 3, 3, 3, 3, 3, 3], [0, 0, 0, 0, 0, 0, 0, 0, 0, 0], [1, 0, 1, 1, 1, 1, 1, 1, 1, 1], [1, 2, 1, 1, 1, 1, 1, 1, 1, 1], [3, 3, 3, 0, 3, 3, 3, 3, 3, 3], [0, 0, 0, 0, 0, 0, 0, 0, 0, 0], [1, 0, 1, 1, 1, 1, 1, 1, 1, 1], [1, 2, 1, 1, 1, 1, 1, 1, 1, 1], [3, 3, 3, 0, 3, 3, 3, 3, 3, 3], [0, 0, 0, 0, 0, 0, 0, 0, 0, 0], [1, 0, 1, 1, 1, 1, 1, 1, 1, 1], [1, 2, 1, 1, 1, 1, 1, 1, 1, 1], [3, 3, 3, 0, 3, 3, 3, 3, 3, 3], [0, 0, 0, 0, 0, 0, 0, 0, 0, 0]]
def ycC_4 : List Nat := [0, 2, 6, 8, 16, 0, 10, 4, 24, 20, 0, 2, 6, 8, 16, 0, 10, 4, 24, 20, 0, 2, 6, 8, 16, 0, 10, 4, 24, 20, 0, 2, 6, 8, 16, 0, 10, 4, 24, 20, 0, 2, 6, 8, 16, 0, 10, 4, 24, 20, 0, 2, 6, 8, 16, 0, 10, 4, 24, 20, 0]
def ycR_4 : List (List Nat) := [[0, 0, 0, 0, 0, 0, 0, 0, 0, 0], [1, 0, 1, 1, 1, 1, 1, 1, 1, 1], [1, 2, 1, 1, 1, 1, 1, 1, 1, 1], [3, 3, 3, 0, 3, 3, 3, 3, 3, 3], [4, 4, 4, 4, 0, 4, 4, 4, 4, 4], [0, 0, 0, 0, 0, 0, 0, 0, 0, 0], [1, 3, 1, 1, 1, 1, 1, 1, 1, 1], [2, 2, 0, 2, 2, 2, 2, 2, 2, 2], [3, 3, 3, 4, 3, 3, 3, 3, 3, 3], [2, 2, 4, 2, 2, 2, 2, 2, 2, 2], [0, 0, 0, 0, 0, 0, 0, 0, 0, 0], [1, 0, 1, 1, 1, 1, 1, 1, 1, 1], [1, 2, 1, 1, 1, 1, 1, 1, 1, 1], [3, 3, 3, 0, 3, 3, 3, 3, 3, 3], [4, 4, 4, 4, 0, 4, 4, 4, 4, 4], [0, 0, 0, 0, 0, 0, 0, 0, 0, 0], [1, 3, 1, 1, 1, 1, 1, 1, 1, 1], [2, 2, 0, 2, 2, 2, 2, 2, 2, 2], [3, 3, 3, 4, 3, 3, 3, 3, 3, 3], [2, 2, 4, 2, 2, 2, 2, 2, 2, 2], [0, 0, 0, 0, 0, 0, 0, 0, 0, 0], [1, 0, 1, 1, 1, 1, 1, 1, 1, 1], [1, 2, 1, 1, 1, 1, 1, 1, 1, 1], [3, 3, 3, 0, 3, 3, 3, 3, 3, 3], [4, 4, 4, 4, 0, 4, 4, 4, 4, 4], [0, 0, 0, 0, 0, 0, 0, 0, 0, 0], [1, 3, 1, 1, 1, 1, 1, 1, 1, 1], [2, 2, 0, 2, 2, 2, 2, 2, 2, 2], [3, 3, 3, 4, 3, 3, 3, 3, 3, 3], [2, 2, 4, 2, 2, 2, 2, 2, 2, 2], [0, 0, 0, 0, 0, 0, 0, 0, 0, 0], [1, 0, 1, 1, 1, 1, 1, 1, 1, 1], [1, 2, 1, 1, 1, 1, 1, 1, 1, 1], [3, 3, 3, 0, 3, 3, 3, 3, 3, 3], [4, 4, 4, 4, 0, 4, 4, 4, 4, 4], [0, 0, 0, 0, 0, 0, 0, 0, 0, 0], [1, 3, 1, 1, 1, 1, 1, 1, 1, 1], [2, 2, 0, 2, 2, 2, 2, 2, 2, 2], [3, 3, 3, 4, 3, 3, 3, 3, 3, 3], [2, 2, 4, 2, 2, 2, 2, 2, 2, 2], [0, 0, 0, 0, 0, 0, 0, 0, 0, 0], [1, 0, 1, 1, 1, 1, 1, 1, 1, 1], [1, 2, 1, 1, 1, 1, 1, 1, 1, 1], [3, 3, 3, 0, 3, 3, 3, 3, 3, 3], [4, 4, 4, 4, 0, 4, 4, 4, 4, 4], [0, 0, 0, 0, 0, 0, 0, 0, 0, 0], [1, 3, 1, 1, 1, 1, 1, 1, 1, 1], [2, 2, 0, 2, 2, 2, 2, 2, 2, 2], [3, 3, 3, 4, 3, 3, 3, 3, 3, 3], [2, 2, 4, 2, 2, 2, 2, 2, 2, 2], [0, 0, 0, 0, 0, 0, 0, 0, 0, 0], [1, 0, 1, 1, 1, 1, 1, 1, 1, 1], [1, 2, 1, 1, 1, 1, 1, 1, 1, 1], [3, 3, 3, 0, 3, 3, 3, 3, 3, 3], [4, 4, 4, 4, 0, 4, 4, 4, 4, 4], [0, 0, 0, 0, 0, 0, 0, 0, 0, 0], [1, 3, 1, 1, 1, 1, 1, 1, 1, 1], [2, 2, 0, 2, 2, 2, 2, 2, 2, 2], [3, 3, 3, 4, 3, 3, 3, 3, 3, 3], [2, 2, 4, 2, 2, 2, 2, 2, 2, 2], [0, 0, 0, 0, 0, 0, 0, 0, 0, 0]]
def ycC_5 : List Nat := [0, 2, 6, 8, 16, 32, 8, 0, 18, 12, 40, 16, 32, 0, 2, 22, 8, 48, 32, 8, 0, 2, 14, 40, 16, 32, 0, 2, 22, 8, 48, 32, 8, 0, 2, 14, 40, 16, 32, 0, 2, 22, 8, 48, 32, 8, 0, 2, 14, 40, 16, 32, 0, 2, 22, 8, 48, 32, 8, 0, 2]
def ycR_5 : List (List Nat) := [[0, 0, 0, 0, 0, 0, 0, 0, 0, 0], [1, 0, 1, 1, 1, 1, 1, 1, 1, 1], [1, 2, 1, 1, 1, 1, 1, 1, 1, 1], [3, 3, 3, 0, 3, 3, 3, 3, 3, 3], [4, 4, 4, 4, 0, 4, 4, 4, 4, 4], [5, 5, 5, 5, 5, 0, 5, 5, 5, 5], [3, 3, 3, 0, 3, 3, 3, 3, 3, 3], [0, 0, 0, 0, 0, 0, 0, 0, 0, 0], [1, 4, 1, 1, 1, 1, 1, 1, 1, 1], [2, 2, 3, 2, 2, 2, 2, 2, 2, 2], [3, 3, 3, 5, 3, 3, 3, 3, 3, 3], [4, 4, 4, 4, 0, 4, 4, 4, 4, 4], [5, 5, 5, 5, 5, 0, 5, 5, 5, 5], [0, 0, 0, 0, 0, 0, 0, 0, 0, 0], [1, 0, 1, 1, 1, 1, 1, 1, 1, 1], [1, 2, 1, 1, 1, 1, 1, 1, 1, 1], [3, 3, 3, 0, 3, 3, 3, 3, 3, 3], [4, 4, 4, 4, 5, 4, 4, 4, 4, 4], [5, 5, 5, 5, 5, 0, 5, 5, 5, 5], [3, 3, 3, 0, 3, 3, 3, 3, 3, 3], [0, 0, 0, 0, 0, 0, 0, 0, 0, 0], [1, 0, 1, 1, 1, 1, 1, 1, 1, 1], [1, 2, 1, 1, 1, 1, 1, 1, 1, 1], [3, 3, 3, 5, 3, 3, 3, 3, 3, 3], [4, 4, 4, 4, 0, 4, 4, 4, 4, 4], [5, 5, 5, 5, 5, 0, 5, 5, 5, 5], [0, 0, 0, 0, 0, 0, 0, 0, 0, 0], [1, 0, 1, 1, 1, 1, 1, 1, 1, 1], [1, 2, 1, 1, 1, 1, 1, 1, 1, 1], [3, 3, 3, 0, 3, 3, 3, 3, 3, 3], [4, 4, 4, 4, 5, 4, 4, 4, 4, 4], [5, 5, 5, 5, 5, 0, 5, 5, 5, 5], [3, 3, 3, 0, 3, 3, 3, 3, 3, 3], [0, 0, 0, 0, 0, 0, 0, 0, 0, 0], [1, 0, 1, 1, 1, 1, 1, 1, 1, 1], [1, 2, 1, 1, 1, 1, 1, 1, 1, 1], [3, 3, 3, 5, 3, 3, 3, 3, 3, 3], [4, 4, 4, 4, 0, 4, 4, 4, 4, 4], [5, 5, 5, 5, 5, 0, 5, 5, 5, 5], [0, 0, 0, 0, 0, 0, 0, 0, 0, 0], [1, 0, 1, 1, 1, 1, 1, 1, 1, 1], [1, 2, 1, 1, 1, 1, 1, 1, 1, 1], [3, 3, 3, 0, 3, 3, 3, 3, 3, 3], [4, 4, 4, 4, 5, 4, 4, 4, 4, 4], [5, 5, 5, 5, 5, 0, 5, 5, 5, 5], [3, 3, 3, 0, 3, 3, 3, 3, 3, 3], [0, 0, 0, 0, 0, 0, 0, 0, 0, 0], [1, 0, 1, 1, 1, 1, 1, 1, 1, 1], [1, 2, 1, 1, 1, 1, 1, 1, 1, 1], [3, 3, 3, 5, 3, 3, 3, 3, 3, 3], [4, 4, 4, 4, 0, 4, 4, 4, 4, 4], [5, 5, 5, 5, 5, 0, 5, 5, 5, 5], [0, 0, 0, 0, 0, 0, 0, 0, 0, 0], [1, 0, 1, 1, 1, 1, 1, 1, 1, 1], [1, 2, 1, 1, 1, 1, 1, 1, 1, 1], [3, 3, 3, 0, 3, 3, 3, 3, 3, 3], [4, 4, 4, 4, 5, 4, 4, 4, 4, 4], [5, 5, 5, 5, 5, 0, 5, 5, 5, 5], [3, 3, 3, 0, 3, 3, 3, 3, 3, 3], [0, 0, 0, 0, 0, 0, 0, 0, 0, 0], [1, 0, 1, 1, 1, 1, 1, 1, 1, 1]]
def ycC_6 : List Nat := [0, 2, 6, 8, 16, 32, 72, 0, 18, 4, 40, 20, 32, 64, 0, 2, 6, 40, 16, 96, 64, 0, 18, 4, 8, 20, 96, 72, 0, 2, 6, 8, 16, 32, 72, 0, 18, 4, 40, 20, 32, 64, 0, 2, 6, 40, 16, 96, 64, 0, 18, 4, 8, 20, 96, 72, 0, 2, 6, 8, 16]
def ycR_6 : List (List Nat) := [[0, 0, 0, 0, 0, 0, 0, 0, 0, 0], [1, 0, 1, 1, 1, 1, 1, 1, 1, 1], [1, 2, 1, 1, 1, 1, 1, 1, 1, 1], [3, 3, 3, 0, 3, 3, 3, 3, 3, 3], [4, 4, 4, 4, 0, 4, 4, 4, 4, 4], [5, 5, 5, 5, 5, 0, 5, 5, 5, 5], [3, 3, 3, 6, 3, 3, 3, 3, 3, 3], [0, 0, 0, 0, 0, 0, 0, 0, 0, 0], [1, 4, 1, 1, 1, 1, 1, 1, 1, 1], [2, 2, 0, 2, 2, 2, 2, 2, 2, 2], [3, 3, 3, 5, 3, 3, 3, 3, 3, 3], [2, 2, 4, 2, 2, 2, 2, 2, 2, 2], [5, 5, 5, 5, 5, 0, 5, 5, 5, 5], [6, 6, 6, 6, 6, 6, 0, 6, 6, 6], [0, 0, 0, 0, 0, 0, 0, 0, 0, 0], [1, 0, 1, 1, 1, 1, 1, 1, 1, 1], [1, 2, 1, 1, 1, 1, 1, 1, 1, 1], [3, 3, 3, 5, 3, 3, 3, 3, 3, 3], [4, 4, 4, 4, 0, 4, 4, 4, 4, 4], [5, 5, 5, 5, 5, 6, 5, 5, 5, 5], [6, 6, 6, 6, 6, 6, 0, 6, 6, 6], [0, 0, 0, 0, 0, 0, 0, 0, 0, 0], [1, 4, 1, 1, 1, 1, 1, 1, 1, 1], [2, 2, 0, 2, 2, 2, 2, 2, 2, 2], [3, 3, 3, 0, 3, 3, 3, 3, 3, 3], [2, 2, 4, 2, 2, 2, 2, 2, 2, 2], [5, 5, 5, 5, 5, 6, 5, 5, 5, 5], [3, 3, 3, 6, 3, 3, 3, 3, 3, 3], [0, 0, 0, 0, 0, 0, 0, 0, 0, 0], [1, 0, 1, 1, 1, 1, 1, 1, 1, 1], [1, 2, 1, 1, 1, 1, 1, 1, 1, 1], [3, 3, 3, 0, 3, 3, 3, 3, 3, 3], [4, 4, 4, 4, 0, 4, 4, 4, 4, 4], [5, 5, 5, 5, 5, 0, 5, 5, 5, 5], [3, 3, 3, 6, 3, 3, 3, 3, 3, 3], [0, 0, 0, 0, 0, 0, 0, 0, 0, 0], [1, 4, 1, 1, 1, 1, 1, 1, 1, 1], [2, 2, 0, 2, 2, 2, 2, 2, 2, 2], [3, 3, 3, 5, 3, 3, 3, 3, 3, 3], [2, 2, 4, 2, 2, 2, 2, 2, 2, 2], [5, 5, 5, 5, 5, 0, 5, 5, 5, 5], [6, 6, 6, 6, 6, 6, 0, 6, 6, 6], [0, 0, 0, 0, 0, 0, 0, 0, 0, 0], [1, 0, 1, 1, 1, 1, 1, 1, 1, 1], [1, 2, 1, 1, 1, 1, 1, 1, 1, 1], [3, 3, 3, 5, 3, 3, 3, 3, 3, 3], [4, 4, 4, 4, 0, 4, 4, 4, 4, 4], [5, 5, 5, 5, 5, 6, 5, 5, 5, 5], [6, 6, 6, 6, 6, 6, 0, 6, 6, 6], [0, 0, 0, 0, 0, 0, 0, 0, 0, 0], [1, 4, 1, 1, 1, 1, 1, 1, 1, 1], [2, 2, 0, 2, 2, 2, 2, 2, 2, 2], [3, 3, 3, 0, 3, 3, 3, 3, 3, 3], [2, 2, 4, 2, 2, 2, 2, 2, 2, 2], [5, 5, 5, 5, 5, 6, 5, 5, 5, 5], [3, 3, 3, 6, 3, 3, 3, 3, 3, 3], [0, 0, 0, 0, 0, 0, 0, 0, 0, 0], [1, 0, 1, 1, 1, 1, 1, 1, 1, 1], [1, 2, 1, 1, 1, 1, 1, 1, 1, 1], [3, 3, 3, 0, 3, 3, 3, 3, 3, 3], [4, 4, 4, 4, 0, 4, 4, 4, 4, 4]]
def ycC_7 : List Nat := [0, 2, 6, 8, 16, 32, 72, 128, 16, 0, 34, 4, 24, 20, 160, 64, 128, 0, 2, 6, 8, 80, 32, 200, 128, 0, 2, 38, 8, 16, 32, 200, 128, 16, 0, 34, 4, 24, 20, 160, 64, 128, 0, 2, 6, 8, 80, 32, 200, 128, 0, 2, 38, 8, 16, 32, 200, 128, 16, 0, 34]
def ycR_7 : List (List Nat) := [[0, 0, 0, 0, 0, 0, 0, 0, 0, 0], [1, 0, 1, 1, 1, 1, 1, 1, 1, 1], [1, 2, 1, 1, 1, 1, 1, 1, 1, 1], [3, 3, 3, 0, 3, 3, 3, 3, 3, 3], [4, 4, 4, 4, 0, 4, 4, 4, 4, 4], [5, 5, 5, 5, 5, 0, 5, 5, 5, 5], [3, 3, 3, 6, 3, 3, 3, 3, 3, 3], [7, 7, 7, 7, 7, 7, 7, 0, 7, 7], [4, 4, 4, 4, 0, 4, 4, 4, 4, 4], [0, 0, 0, 0, 0, 0, 0, 0, 0, 0], [1, 5, 1, 1, 1, 1, 1, 1, 1, 1], [2, 2, 0, 2, 2, 2, 2, 2, 2, 2], [3, 3, 3, 4, 3, 3, 3, 3, 3, 3], [2, 2, 4, 2, 2, 2, 2, 2, 2, 2], [5, 5, 5, 5, 5, 7, 5, 5, 5, 5], [6, 6, 6, 6, 6, 6, 0, 6, 6, 6], [7, 7, 7, 7, 7, 7, 7, 0, 7, 7], [0, 0, 0, 0, 0, 0, 0, 0, 0, 0], [1, 0, 1, 1, 1, 1, 1, 1, 1, 1], [1, 2, 1, 1, 1, 1, 1, 1, 1, 1], [3, 3, 3, 0, 3, 3, 3, 3, 3, 3], [4, 4, 4, 4, 6, 4, 4, 4, 4, 4], [5, 5, 5, 5, 5, 0, 5, 5, 5, 5], [3, 3, 3, 6, 3, 3, 3, 3, 3, 3], [7, 7, 7, 7, 7, 7, 7, 0, 7, 7], [0, 0, 0, 0, 0, 0, 0, 0, 0, 0], [1, 0, 1, 1, 1, 1, 1, 1, 1, 1], [1, 2, 1, 1, 1, 1, 1, 1, 1, 1], [3, 3, 3, 0, 3, 3, 3, 3, 3, 3], [4, 4, 4, 4, 0, 4, 4, 4, 4, 4], [5, 5, 5, 5, 5, 0, 5, 5, 5, 5], [3, 3, 3, 6, 3, 3, 3, 3, 3, 3], [7, 7, 7, 7, 7, 7, 7, 0, 7, 7], [4, 4, 4, 4, 0, 4, 4, 4, 4, 4], [0, 0, 0, 0, 0, 0, 0, 0, 0, 0], [1, 5, 1, 1, 1, 1, 1, 1, 1, 1], [2, 2, 0, 2, 2, 2, 2, 2, 2, 2], [3, 3, 3, 4, 3, 3, 3, 3, 3, 3], [2, 2, 4, 2, 2, 2, 2, 2, 2, 2], [5, 5, 5, 5, 5, 7, 5, 5, 5, 5], [6, 6, 6, 6, 6, 6, 0, 6, 6, 6], [7, 7, 7, 7, 7, 7, 7, 0, 7, 7], [0, 0, 0, 0, 0, 0, 0, 0, 0, 0], [1, 0, 1, 1, 1, 1, 1, 1, 1, 1], [1, 2, 1, 1, 1, 1, 1, 1, 1, 1], [3, 3, 3, 0, 3, 3, 3, 3, 3, 3], [4, 4, 4, 4, 6, 4, 4, 4, 4, 4], [5, 5, 5, 5, 5, 0, 5, 5, 5, 5], [3, 3, 3, 6, 3, 3, 3, 3, 3, 3], [7, 7, 7, 7, 7, 7, 7, 0, 7, 7], [0, 0, 0, 0, 0, 0, 0, 0, 0, 0], [1, 0, 1, 1, 1, 1, 1, 1, 1, 1], [1, 2, 1, 1, 1, 1, 1, 1, 1, 1], [3, 3, 3, 0, 3, 3, 3, 3, 3, 3], [4, 4, 4, 4, 0, 4, 4, 4, 4, 4], [5, 5, 5, 5, 5, 0, 5, 5, 5, 5], [3, 3, 3, 6, 3, 3, 3, 3, 3, 3], [7, 7, 7, 7, 7, 7, 7, 0, 7, 7], [4, 4, 4, 4, 0, 4, 4, 4, 4, 4], [0, 0, 0, 0, 0, 0, 0, 0, 0, 0], [1, 5, 1, 1, 1, 1, 1, 1, 1, 1]]
def ycC_8 : List Nat := [0, 2, 6, 8, 16, 32, 72, 128, 272, 0, 34, 4, 8, 20, 160, 72, 128, 256, 0, 2, 6, 8, 16, 160, 72, 384, 272, 0, 2, 6, 8, 16, 32, 72, 128, 272, 0, 34, 4, 8, 20, 160, 72, 128, 256, 0, 2, 6, 8, 16, 160, 72, 384, 272, 0, 2, 6, 8, 16, 32, 72]
def ycR_8 : List (List Nat) := [[0, 0, 0, 0, 0, 0, 0, 0, 0, 0], [1, 0, 1, 1, 1, 1, 1, 1, 1, 1], [1, 2, 1, 1, 1, 1, 1, 1, 1, 1], [3, 3, 3, 0, 3, 3, 3, 3, 3, 3], [4, 4, 4, 4, 0, 4, 4, 4, 4, 4], [5, 5, 5, 5, 5, 0, 5, 5, 5, 5], [3, 3, 3, 6, 3, 3, 3, 3, 3, 3], [7, 7, 7, 7, 7, 7, 7, 0, 7, 7], [4, 4, 4, 4, 8, 4, 4, 4, 4, 4], [0, 0, 0, 0, 0, 0, 0, 0, 0, 0], [1, 5, 1, 1, 1, 1, 1, 1, 1, 1], [2, 2, 0, 2, 2, 2, 2, 2, 2, 2], [3, 3, 3, 0, 3, 3, 3, 3, 3, 3], [2, 2, 4, 2, 2, 2, 2, 2, 2, 2], [5, 5, 5, 5, 5, 7, 5, 5, 5, 5], [3, 3, 3, 6, 3, 3, 3, 3, 3, 3], [7, 7, 7, 7, 7, 7, 7, 0, 7, 7], [8, 8, 8, 8, 8, 8, 8, 8, 0, 8], [0, 0, 0, 0, 0, 0, 0, 0, 0, 0], [1, 0, 1, 1, 1, 1, 1, 1, 1, 1], [1, 2, 1, 1, 1, 1, 1, 1, 1, 1], [3, 3, 3, 0, 3, 3, 3, 3, 3, 3], [4, 4, 4, 4, 0, 4, 4, 4, 4, 4], [5, 5, 5, 5, 5, 7, 5, 5, 5, 5], [3, 3, 3, 6, 3, 3, 3, 3, 3, 3], [7, 7, 7, 7, 7, 7, 7, 8, 7, 7], [4, 4, 4, 4, 8, 4, 4, 4, 4, 4], [0, 0, 0, 0, 0, 0, 0, 0, 0, 0], [1, 0, 1, 1, 1, 1, 1, 1, 1, 1], [1, 2, 1, 1, 1, 1, 1, 1, 1, 1], [3, 3, 3, 0, 3, 3, 3, 3, 3, 3], [4, 4, 4, 4, 0, 4, 4, 4, 4, 4], [5, 5, 5, 5, 5, 0, 5, 5, 5, 5], [3, 3, 3, 6, 3, 3, 3, 3, 3, 3], [7, 7, 7, 7, 7, 7, 7, 0, 7, 7], [4, 4, 4, 4, 8, 4, 4, 4, 4, 4], [0, 0, 0, 0, 0, 0, 0, 0, 0, 0], [1, 5, 1, 1, 1, 1, 1, 1, 1, 1], [2, 2, 0, 2, 2, 2, 2, 2, 2, 2], [3, 3, 3, 0, 3, 3, 3, 3, 3, 3], [2, 2, 4, 2, 2, 2, 2, 2, 2, 2], [5, 5, 5, 5, 5, 7, 5, 5, 5, 5], [3, 3, 3, 6, 3, 3, 3, 3, 3, 3], [7, 7, 7, 7, 7, 7, 7, 0, 7, 7], [8, 8, 8, 8, 8, 8, 8, 8, 0, 8], [0, 0, 0, 0, 0, 0, 0, 0, 0, 0], [1, 0, 1, 1, 1, 1, 1, 1, 1, 1], [1, 2, 1, 1, 1, 1, 1, 1, 1, 1], [3, 3, 3, 0, 3, 3, 3, 3, 3, 3], [4, 4, 4, 4, 0, 4, 4, 4, 4, 4], [5, 5, 5, 5, 5, 7, 5, 5, 5, 5], [3, 3, 3, 6, 3, 3, 3, 3, 3, 3], [7, 7, 7, 7, 7, 7, 7, 8, 7, 7], [4, 4, 4, 4, 8, 4, 4, 4, 4, 4], [0, 0, 0, 0, 0, 0, 0, 0, 0, 0], [1, 0, 1, 1, 1, 1, 1, 1, 1, 1], [1, 2, 1, 1, 1, 1, 1, 1, 1, 1], [3, 3, 3, 0, 3, 3, 3, 3, 3, 3], [4, 4, 4, 4, 0, 4, 4, 4, 4, 4], [5, 5, 5, 5, 5, 0, 5, 5, 5, 5], [3, 3, 3, 6, 3, 3, 3, 3, 3, 3]]
def ycC_9 : List Nat := [0, 2, 6, 8, 16, 32, 72, 128, 272, 512, 32, 0, 2, 6, 136, 48, 32, 64, 640, 256, 512, 32, 0, 66, 4, 8, 52, 288, 72, 640, 256, 512, 0, 2, 6, 8, 16, 32, 328, 128, 784, 512, 32, 0, 2, 6, 136, 48, 32, 64, 640, 256, 512, 32, 0, 66, 4, 8, 52, 288, 72]
def ycR_9 : List (List Nat) := [[0, 0, 0, 0, 0, 0, 0, 0, 0, 0], [1, 0, 1, 1, 1, 1, 1, 1, 1, 1], [1, 2, 1, 1, 1, 1, 1, 1, 1, 1], [3, 3, 3, 0, 3, 3, 3, 3, 3, 3], [4, 4, 4, 4, 0, 4, 4, 4, 4, 4], [5, 5, 5, 5, 5, 0, 5, 5, 5, 5], [3, 3, 3, 6, 3, 3, 3, 3, 3, 3], [7, 7, 7, 7, 7, 7, 7, 0, 7, 7], [4, 4, 4, 4, 8, 4, 4, 4, 4, 4], [9, 9, 9, 9, 9, 9, 9, 9, 9, 0], [5, 5, 5, 5, 5, 0, 5, 5, 5, 5], [0, 0, 0, 0, 0, 0, 0, 0, 0, 0], [1, 0, 1, 1, 1, 1, 1, 1, 1, 1], [1, 2, 1, 1, 1, 1, 1, 1, 1, 1], [3, 3, 3, 7, 3, 3, 3, 3, 3, 3], [4, 4, 4, 4, 5, 4, 4, 4, 4, 4], [5, 5, 5, 5, 5, 0, 5, 5, 5, 5], [6, 6, 6, 6, 6, 6, 0, 6, 6, 6], [7, 7, 7, 7, 7, 7, 7, 9, 7, 7], [8, 8, 8, 8, 8, 8, 8, 8, 0, 8], [9, 9, 9, 9, 9, 9, 9, 9, 9, 0], [5, 5, 5, 5, 5, 0, 5, 5, 5, 5], [0, 0, 0, 0, 0, 0, 0, 0, 0, 0], [1, 6, 1, 1, 1, 1, 1, 1, 1, 1], [2, 2, 0, 2, 2, 2, 2, 2, 2, 2], [3, 3, 3, 0, 3, 3, 3, 3, 3, 3], [2, 2, 4, 2, 2, 2, 2, 2, 2, 2], [5, 5, 5, 5, 5, 8, 5, 5, 5, 5], [3, 3, 3, 6, 3, 3, 3, 3, 3, 3], [7, 7, 7, 7, 7, 7, 7, 9, 7, 7], [8, 8, 8, 8, 8, 8, 8, 8, 0, 8], [9, 9, 9, 9, 9, 9, 9, 9, 9, 0], [0, 0, 0, 0, 0, 0, 0, 0, 0, 0], [1, 0, 1, 1, 1, 1, 1, 1, 1, 1], [1, 2, 1, 1, 1, 1, 1, 1, 1, 1], [3, 3, 3, 0, 3, 3, 3, 3, 3, 3], [4, 4, 4, 4, 0, 4, 4, 4, 4, 4], [5, 5, 5, 5, 5, 0, 5, 5, 5, 5], [3, 3, 3, 6, 3, 3, 3, 3, 3, 3], [7, 7, 7, 7, 7, 7, 7, 0, 7, 7], [4, 4, 4, 4, 8, 4, 4, 4, 4, 4], [9, 9, 9, 9, 9, 9, 9, 9, 9, 0], [5, 5, 5, 5, 5, 0, 5, 5, 5, 5], [0, 0, 0, 0, 0, 0, 0, 0, 0, 0], [1, 0, 1, 1, 1, 1, 1, 1, 1, 1], [1, 2, 1, 1, 1, 1, 1, 1, 1, 1], [3, 3, 3, 7, 3, 3, 3, 3, 3, 3], [4, 4, 4, 4, 5, 4, 4, 4, 4, 4], [5, 5, 5, 5, 5, 0, 5, 5, 5, 5], [6, 6, 6, 6, 6, 6, 0, 6, 6, 6], [7, 7, 7, 7, 7, 7, 7, 9, 7, 7], [8, 8, 8, 8, 8, 8, 8, 8, 0, 8], [9, 9, 9, 9, 9, 9, 9, 9, 9, 0], [5, 5, 5, 5, 5, 0, 5, 5, 5, 5], [0, 0, 0, 0, 0, 0, 0, 0, 0, 0], [1, 6, 1, 1, 1, 1, 1, 1, 1, 1], [2, 2, 0, 2, 2, 2, 2, 2, 2, 2], [3, 3, 3, 0, 3, 3, 3, 3, 3, 3], [2, 2, 4, 2, 2, 2, 2, 2, 2, 2], [5, 5, 5, 5, 5, 8, 5, 5, 5, 5], [3, 3, 3, 6, 3, 3, 3, 3, 3, 3]]
def ycC (k : Nat) : List Nat := match k with
  | 2 => ycC_2
  | 3 => ycC_3
  | 4 => ycC_4
  | 5 => ycC_5
  | 6 => ycC_6
  | 7 => ycC_7
  | 8 => ycC_8
  | 9 => ycC_9
  | _ => []
def ycR (k : Nat) : List (List Nat) := match k with
  | 2 => ycR_2
  | 3 => ycR_3
  | 4 => ycR_4
  | 5 => ycR_5
  | 6 => ycR_6
  | 7 => ycR_7
  | 8 => ycR_8
  | 9 => ycR_9
  | _ => []
def ywC (k i : Nat) : Int32 := Int32.ofNat ((ycC k).getD i 0)
def ywR (k l a : Nat) : Int32 := Int32.ofNat (((ycR k).getD l []).getD a 0)
def ycB (w T : Int32) : Bool := decide ((w &&& (Int32.ofInt 1 <<< (T &&& 31) ^^^ Int32.ofInt (-1))).toInt = 0)
/-- a row of the class, after j turns -/
def ycI (k n : Nat) : Nat → Int32
  | 0 => Int32.ofInt 0
  | j + 1 => bif ycB (ywC k (n - (j + 1))) (Int32.ofNat (j + 1)) then ycI k n j ||| Int32.ofInt 1 <<< (Int32.ofNat (j + 1) &&& 31) else ycI k n j
def ycQ (w T : Int32) : Bool := decide (((w >>> (T &&& 31)) &&& Int32.ofInt 1).toInt = (Int32.ofInt 1).toInt)
def ycZ (w : Int32) : Nat → Nat → Int32
  | 0, _ => Int32.ofInt 0
  | r + 1, t => bif ycQ w (Int32.ofNat t) then Int32.ofNat t else ycZ w r (t + 1)
def yqR (k l a t : Nat) : Bool := !(Nat.beq t a) && decide ((ywR k (l - t) t).toInt = 0)
/-- a cell of the reference, after s turns from the most down -/
def yjR (k l a T : Nat) : Nat → Int32
  | 0 => Int32.ofInt 0
  | s + 1 => bif yqR k l a (T - s) then Int32.ofNat (T - s) else yjR k l a T s
def ycK (n k : Int32) : Int32 := if 0 ≤ n.toInt ∧ n.toInt ≤ 60 ∧ 2 ≤ k.toInt ∧ k.toInt ≤ 9 then ywR k.toInt.toNat n.toInt.toNat 0 else Int32.ofInt (-1)
set_option maxRecDepth 6000 in
theorem ychkC : (List.range 8).all (fun a => (List.range 61).all fun n => decide (ycI (a + 2) n (min (a + 2) n) = ywC (a + 2) n)) = true := by decide +kernel
set_option maxRecDepth 6000 in
theorem ychkR : (List.range 8).all (fun k => (List.range 61).all fun n => (List.range 10).all fun a => decide (yjR (k + 2) n a (min (k + 2) n) (min (k + 2) n) = ywR (k + 2) n a)) = true := by decide +kernel
set_option maxRecDepth 6000 in
theorem ychkZ : (List.range 8).all (fun a => (List.range 61).all fun n => decide (ycZ (ywC (a + 2) n) (a + 2) 1 = ywR (a + 2) n 0)) = true := by decide +kernel
set_option maxRecDepth 6000 in
theorem yeqC {k n : Nat} (h2 : 2 ≤ k) (h9 : k ≤ 9) (hn : n ≤ 60) : ycI k n (min k n) = ywC k n := by
  have h := of_decide_eq_true (List.all_eq_true.mp (List.all_eq_true.mp ychkC (k - 2) (List.mem_range.mpr (by omega))) n (List.mem_range.mpr (by omega)))
  rw [show k - 2 + 2 = k by omega] at h
  exact h
set_option maxRecDepth 6000 in
theorem yeqR {k n a : Nat} (h2 : 2 ≤ k) (h9 : k ≤ 9) (hn : n ≤ 60) (ha : a ≤ 9) : yjR k n a (min k n) (min k n) = ywR k n a := by
  have h := of_decide_eq_true (List.all_eq_true.mp (List.all_eq_true.mp (List.all_eq_true.mp ychkR (k - 2) (List.mem_range.mpr (by omega))) n (List.mem_range.mpr (by omega))) a (List.mem_range.mpr (by omega)))
  rw [show k - 2 + 2 = k by omega] at h
  exact h
set_option maxRecDepth 6000 in
theorem yeqZ {k n : Nat} (h2 : 2 ≤ k) (h9 : k ≤ 9) (hn : n ≤ 60) : ycZ (ywC k n) k 1 = ywR k n 0 := by
  have h := of_decide_eq_true (List.all_eq_true.mp (List.all_eq_true.mp ychkZ (k - 2) (List.mem_range.mpr (by omega))) n (List.mem_range.mpr (by omega)))
  rw [show k - 2 + 2 = k by omega] at h
  exact h
set_option maxRecDepth 6000 in
theorem yb60 : ((Int8.ofInt 60).toInt32).toInt = 60 := by decide
set_option maxRecDepth 6000 in
theorem yb10 : ((Int8.ofInt 10).toInt32).toInt = 10 := by decide
set_option maxRecDepth 6000 in
theorem yn2 : (Int32.ofInt 2).toInt = 2 := by decide
set_option maxRecDepth 6000 in
theorem yn9 : (Int32.ofInt 9).toInt = 9 := by decide
section YC
variable {E : pm_H → Prop} {m : Int} {D : Nat} {ph : pm_H} {Q : Option Value → pm_H → Prop}
set_option maxRecDepth 6000 in
theorem gt_wins {pc pc' aux : Nat} {L : List (Option Value)} {st : List Value} (hP : xH xX kK m 0 ph) (hc : pm_code kK 20 pc = some (5, .getfield 15, aux)) (hp : pc + 3 = pc') (kk : xGT kK D 20 Q (pc', L, .ref 169 :: st, ph, 0, 0)) : xGT kK D 20 Q (pc, L, .ref 167 :: st, ph, 0, 0) := by
  obtain ⟨fl, hat, hfl⟩ := xO_at (a := 167) hP rfl rfl
  obtain ⟨v4, hv4, hv⟩ := hfl 2 _ rfl
  have e4 : v4 = .ref 169 := xaO (m' := 0) (A := 169) hP rfl hv
  subst e4
  exact gt_gfo hc rfl hat hv4 hp kk
set_option maxRecDepth 6000 in
theorem ycIn (hE : xHE xX xgA_G8 xgF_G8 E) {k n on : Nat} (k2 : 2 ≤ k) (k9 : k ≤ 9) (n1 : 1 ≤ n) (n60 : n ≤ 60) {M N O : Int32} (hM : M.toInt = (k : Int)) (hN : N.toInt = (n : Int)) (kk : ∀ (T : Int32) (ph : pm_H), (∀ i, i ≤ n → xget ph 169 i = some (.int (ywC k i))) → xH xX kK m 0 ph → E ph → xGT kK D 20 Q (80, [some (.ref 167), some (.int O), some (.int M), some (.int N), some (.int T)], [], ph, 0, 0)) : ∀ (r j : Nat) (T : Int32) (ph : pm_H), j + r = min k n → T = Int32.ofNat (j + 1) → (∀ i, i < n → xget ph 169 i = some (.int (ywC k i))) → xget ph 169 n = some (.int (ycI k n j)) → xH xX kK m 0 ph → E ph → xGT kK D 20 Q (30, [some (.ref 167), some (.int O), some (.int M), some (.int N), some (.int T)], [], ph, 0, 0) := by
  intro r
  induction r with
  | zero =>
    intro j T ph hj hT hW hn hP g9
    have hT2 : T.toInt = ((j + 1 : Nat) : Int) := by rw [hT]; exact ynat (by omega)
    have hall : ∀ i, i ≤ n → xget ph 169 i = some (.int (ywC k i)) := fun i hi => by
      by_cases e : i = n
      · subst e
        rw [hn, show j = min k i by omega, yeqC k2 k9 n60]
      · exact hW i (by omega)
    by_cases hk : k < j + 1
    · refine gt_load (v := .int T) (n := 2) (ykc_20 (e := (2, .iload 4, 0)) rfl) rfl rfl ?_
      refine gt_load (v := .int M) (n := 1) (ykc_20 (e := (2, .iload_n kF2, 0)) rfl) rfl rfl ?_
      refine gt_igt_t (ykc_20 (e := (4, .if_icmp .gt 47, 80)) rfl) (by omega) ?_
      exact kk _ _ hall hP g9
    · refine gt_load (v := .int T) (n := 2) (ykc_20 (e := (2, .iload 4, 0)) rfl) rfl rfl ?_
      refine gt_load (v := .int M) (n := 1) (ykc_20 (e := (2, .iload_n kF2, 0)) rfl) rfl rfl ?_
      refine gt_igt_f (ykc_20 (e := (4, .if_icmp .gt 47, 80)) rfl) (by omega) rfl ?_
      refine gt_load (v := .int T) (n := 2) (ykc_20 (e := (2, .iload 4, 0)) rfl) rfl rfl ?_
      refine gt_load (v := .int N) (n := 1) (ykc_20 (e := (2, .iload_n kF3, 0)) rfl) rfl rfl ?_
      refine gt_igt_t (ykc_20 (e := (4, .if_icmp .gt 41, 80)) rfl) (by omega) ?_
      exact kk _ _ hall hP g9
  | succ r ih =>
    intro j T ph hj hT hW hn hP g9
    have hT2 : T.toInt = ((j + 1 : Nat) : Int) := by rw [hT]; exact ynat (by omega)
    refine gt_load (v := .int T) (n := 2) (ykc_20 (e := (2, .iload 4, 0)) rfl) rfl rfl ?_
    refine gt_load (v := .int M) (n := 1) (ykc_20 (e := (2, .iload_n kF2, 0)) rfl) rfl rfl ?_
    refine gt_igt_f (ykc_20 (e := (4, .if_icmp .gt 47, 80)) rfl) (by omega) rfl ?_
    refine gt_load (v := .int T) (n := 2) (ykc_20 (e := (2, .iload 4, 0)) rfl) rfl rfl ?_
    refine gt_load (v := .int N) (n := 1) (ykc_20 (e := (2, .iload_n kF3, 0)) rfl) rfl rfl ?_
    refine gt_igt_f (ykc_20 (e := (4, .if_icmp .gt 41, 80)) rfl) (by omega) rfl ?_
    refine gt_load (v := .ref 167) (n := 1) (ykc_20 (e := (2, .aload_n kF0, 0)) rfl) rfl rfl ?_
    refine gt_wins hP (ykc_20 (e := (5, .getfield 15, 0)) rfl) rfl ?_
    refine gt_load (v := .int N) (n := 1) (ykc_20 (e := (2, .iload_n kF3, 0)) rfl) rfl rfl ?_
    refine gt_load (v := .int T) (n := 2) (ykc_20 (e := (2, .iload 4, 0)) rfl) rfl rfl ?_
    obtain ⟨d, e_d, h_d⟩ : ∃ zq : Int32, N - T = zq ∧ zq.toInt = N.toInt - T.toInt := ⟨_, rfl, by rw [ti_sub (by omega) (by omega)]⟩
    refine gt_alu (st' := [.int d, .ref 169]) (ykc_20 (e := (0, .isub, 0)) rfl) (by rw [← e_d]; exact rfl) rfl ?_
    refine gt_ial (A := 169) (ykc_20 (e := (5, .iaload, 0)) rfl) hP rfl rfl (by rw [h_d]; omega) (by rw [h_d]; omega) rfl (fun wv g_wv b_wv => ?_)
    obtain rfl : wv = ywC k (n - (j + 1)) := xget_int g_wv (by rw [show d.toInt.toNat = n - (j + 1) by omega]; exact hW _ (by omega))
    refine gt_alu (st' := [.int (Int32.ofInt 1), .int (ywC k (n - (j + 1)))]) (ykc_20 (e := (0, .iconst 1, 0)) rfl) rfl rfl ?_
    refine gt_load (v := .int T) (n := 2) (ykc_20 (e := (2, .iload 4, 0)) rfl) rfl rfl ?_
    refine gt_alu (st' := [.int ((Int32.ofInt 1) <<< (T &&& 31)), .int (ywC k (n - (j + 1)))]) (ykc_20 (e := (0, .ishl, 0)) rfl) rfl rfl ?_
    refine gt_alu (st' := [.int (Int32.ofInt (-1)), .int ((Int32.ofInt 1) <<< (T &&& 31)), .int (ywC k (n - (j + 1)))]) (ykc_20 (e := (0, .iconst (-1), 0)) rfl) rfl rfl ?_
    refine gt_alu (st' := [.int (((Int32.ofInt 1) <<< (T &&& 31)) ^^^ (Int32.ofInt (-1))), .int (ywC k (n - (j + 1)))]) (ykc_20 (e := (0, .ixor, 0)) rfl) rfl rfl ?_
    refine gt_alu (st' := [.int ((ywC k (n - (j + 1))) &&& (((Int32.ofInt 1) <<< (T &&& 31)) ^^^ (Int32.ofInt (-1))))]) (ykc_20 (e := (0, .iand, 0)) rfl) rfl rfl ?_
    by_cases hb : (ywC k (n - (j + 1)) &&& (Int32.ofInt 1 <<< (T &&& 31) ^^^ Int32.ofInt (-1))).toInt = 0
    · refine gt_zne_f (ykc_20 (e := (4, .ifCond .ne 16, 74)) rfl) hb rfl ?_
      refine gt_load (v := .ref 167) (n := 1) (ykc_20 (e := (2, .aload_n kF0, 0)) rfl) rfl rfl ?_
      refine gt_wins hP (ykc_20 (e := (5, .getfield 15, 0)) rfl) rfl ?_
      refine gt_load (v := .int N) (n := 1) (ykc_20 (e := (2, .iload_n kF3, 0)) rfl) rfl rfl ?_
      refine gt_alu (st' := [.int N, .ref 169, .int N, .ref 169]) (ykc_20 (e := (0, .dup2, 0)) rfl) rfl rfl ?_
      refine gt_ial (A := 169) (ykc_20 (e := (5, .iaload, 0)) rfl) hP rfl rfl (by omega) (by omega) rfl (fun wx g_wx b_wx => ?_)
      obtain rfl : wx = ycI k n j := xget_int g_wx (by rw [show N.toInt.toNat = n by omega]; exact hn)
      refine gt_alu (st' := [.int (Int32.ofInt 1), .int (ycI k n j), .int N, .ref 169]) (ykc_20 (e := (0, .iconst 1, 0)) rfl) rfl rfl ?_
      refine gt_load (v := .int T) (n := 2) (ykc_20 (e := (2, .iload 4, 0)) rfl) rfl rfl ?_
      refine gt_alu (st' := [.int ((Int32.ofInt 1) <<< (T &&& 31)), .int (ycI k n j), .int N, .ref 169]) (ykc_20 (e := (0, .ishl, 0)) rfl) rfl rfl ?_
      refine gt_alu (st' := [.int ((ycI k n j) ||| ((Int32.ofInt 1) <<< (T &&& 31))), .int N, .ref 169]) (ykc_20 (e := (0, .ior, 0)) rfl) rfl rfl ?_
      refine gt_ias (A := 169) (y := (ycI k n j) ||| ((Int32.ofInt 1) <<< (T &&& 31))) (x := N) (ykc_20 (e := (5, .iastore, 0)) rfl) hP rfl rfl (by omega) (by omega) xany rfl (fun ph101 hP101 u101 => ?_)
      refine gt_store (L' := [some (.ref 167), some (.int O), some (.int M), some (.int N), some (.int (T + Int32.ofInt 1))]) (st' := []) (n := 3) (ykc_20 (e := (3, .iinc 4 1, 0)) rfl) rfl rfl ?_
      refine gt_br (pc' := 30) (st' := []) (ykc_20 (e := (4, .goto (-47), 30)) rfl) rfl ?_
      have hB : ycI k n (j + 1) = ycI k n j ||| Int32.ofInt 1 <<< (T &&& 31) := by
        show (bif ycB (ywC k (n - (j + 1))) (Int32.ofNat (j + 1)) then ycI k n j ||| Int32.ofInt 1 <<< (Int32.ofNat (j + 1) &&& 31) else ycI k n j) = _
        rw [show ycB (ywC k (n - (j + 1))) (Int32.ofNat (j + 1)) = true by unfold ycB; rw [← hT]; exact decide_eq_true hb, cond_true, hT]
      exact ih (j + 1) _ _ (by omega) (ysuc hT (by omega)) (fun i hi => (u101.2.1 169 i (fun q => by have := q.2; omega)).trans (hW i hi)) (by rw [hB, ← u101.1, show N.toInt.toNat = n by omega]) hP101 (xu1_E hE u101 rfl rfl rfl g9)
    · refine gt_zne_t (ykc_20 (e := (4, .ifCond .ne 16, 74)) rfl) hb ?_
      refine gt_store (L' := [some (.ref 167), some (.int O), some (.int M), some (.int N), some (.int (T + Int32.ofInt 1))]) (st' := []) (n := 3) (ykc_20 (e := (3, .iinc 4 1, 0)) rfl) rfl rfl ?_
      refine gt_br (pc' := 30) (st' := []) (ykc_20 (e := (4, .goto (-47), 30)) rfl) rfl ?_
      have hB : ycI k n (j + 1) = ycI k n j := by
        show (bif ycB (ywC k (n - (j + 1))) (Int32.ofNat (j + 1)) then ycI k n j ||| Int32.ofInt 1 <<< (Int32.ofNat (j + 1) &&& 31) else ycI k n j) = _
        rw [show ycB (ywC k (n - (j + 1))) (Int32.ofNat (j + 1)) = false by unfold ycB; rw [← hT]; exact decide_eq_false hb, cond_false]
      exact ih (j + 1) _ _ (by omega) (ysuc hT (by omega)) hW (by rw [hB]; exact hn) hP g9
set_option maxRecDepth 6000 in
theorem ycOut (hE : xHE xX xgA_G8 xgF_G8 E) {k on : Nat} (k2 : 2 ≤ k) (k9 : k ≤ 9) (o60 : on ≤ 60) {M O : Int32} (hM : M.toInt = (k : Int)) (hO : O.toInt = (on : Int)) (kk : ∀ (N : Int32) (t0 : Option Value) (ph : pm_H), xget ph 169 on = some (.int (ywC k on)) → xH xX kK m 0 ph → E ph → xGT kK D 20 Q (86, [some (.ref 167), some (.int O), some (.int M), some (.int N), t0], [], ph, 0, 0)) : ∀ (r n : Nat) (N : Int32) (t0 : Option Value) (ph : pm_H), n + r = on + 1 → 1 ≤ n → N = Int32.ofNat n → (∀ i, i < n → xget ph 169 i = some (.int (ywC k i))) → xH xX kK m 0 ph → E ph → xGT kK D 20 Q (9, [some (.ref 167), some (.int O), some (.int M), some (.int N), t0], [], ph, 0, 0) := by
  intro r
  induction r with
  | zero =>
    intro n N t0 ph hr h1 hN hW hP g9
    have hN2 : N.toInt = (n : Int) := by rw [hN]; exact ynat (by omega)
    refine gt_load (v := .int N) (n := 1) (ykc_20 (e := (2, .iload_n kF3, 0)) rfl) rfl rfl ?_
    refine gt_load (v := .int O) (n := 1) (ykc_20 (e := (2, .iload_n kF1, 0)) rfl) rfl rfl ?_
    refine gt_igt_t (ykc_20 (e := (4, .if_icmp .gt 75, 86)) rfl) (by omega) ?_
    exact kk _ _ _ (hW on (by omega)) hP g9
  | succ r ih =>
    intro n N t0 ph hr h1 hN hW hP g9
    have hN2 : N.toInt = (n : Int) := by rw [hN]; exact ynat (by omega)
    refine gt_load (v := .int N) (n := 1) (ykc_20 (e := (2, .iload_n kF3, 0)) rfl) rfl rfl ?_
    refine gt_load (v := .int O) (n := 1) (ykc_20 (e := (2, .iload_n kF1, 0)) rfl) rfl rfl ?_
    refine gt_igt_f (ykc_20 (e := (4, .if_icmp .gt 75, 86)) rfl) (by omega) rfl ?_
    refine gt_load (v := .int N) (n := 1) (ykc_20 (e := (2, .iload_n kF3, 0)) rfl) rfl rfl ?_
    refine gt_push (v := .int ((Int8.ofInt 60).toInt32)) (n := 2) (ykc_20 (e := (1, .bipush 60, 0)) rfl) rfl rfl ?_
    refine gt_igt_f (ykc_20 (e := (4, .if_icmp .gt 69, 86)) rfl) (by rw [yb60]; omega) rfl ?_
    refine gt_load (v := .ref 167) (n := 1) (ykc_20 (e := (2, .aload_n kF0, 0)) rfl) rfl rfl ?_
    refine gt_wins hP (ykc_20 (e := (5, .getfield 15, 0)) rfl) rfl ?_
    refine gt_load (v := .int N) (n := 1) (ykc_20 (e := (2, .iload_n kF3, 0)) rfl) rfl rfl ?_
    refine gt_alu (st' := [.int (Int32.ofInt 0), .int N, .ref 169]) (ykc_20 (e := (0, .iconst 0, 0)) rfl) rfl rfl ?_
    refine gt_ias (A := 169) (y := Int32.ofInt 0) (x := N) (ykc_20 (e := (5, .iastore, 0)) rfl) hP rfl rfl (by omega) (by omega) xany rfl (fun ph1 hP1 u1 => ?_)
    refine gt_alu (st' := [.int (Int32.ofInt 1)]) (ykc_20 (e := (0, .iconst 1, 0)) rfl) rfl rfl ?_
    refine gt_store (L' := [some (.ref 167), some (.int O), some (.int M), some (.int N), some (.int (Int32.ofInt 1))]) (st' := []) (n := 2) (ykc_20 (e := (3, .istore 4, 0)) rfl) rfl rfl ?_
    refine ycIn (on := on) hE k2 k9 h1 (by omega) hM hN2 (fun T' ph' hW' hP' g9' => ?_) (min k n) 0 _ _ (by omega) rfl (fun i hi => (u1.2.1 169 i (fun q => by have := q.2; omega)).trans (hW i hi)) (by rw [← show N.toInt.toNat = n by omega]; exact u1.1) hP1 (xu1_E hE u1 rfl rfl rfl g9)
    refine gt_store (L' := [some (.ref 167), some (.int O), some (.int M), some (.int (N + Int32.ofInt 1)), some (.int (T'))]) (st' := []) (n := 3) (ykc_20 (e := (3, .iinc 3 1, 0)) rfl) rfl rfl ?_
    refine gt_br (pc' := 9) (st' := []) (ykc_20 (e := (4, .goto (-74), 9)) rfl) rfl ?_
    exact ih (n + 1) _ _ _ (by omega) (by omega) (ysuc hN (by omega)) (fun i hi => hW' i (by omega)) hP' g9'
set_option maxRecDepth 6000 in
theorem ycLast {k on : Nat} {w : Int32} (k9 : k ≤ 9) (o60 : on ≤ 60) {M O : Int32} {t0 : Option Value} (hM : M.toInt = (k : Int)) (hO : O.toInt = (on : Int)) (hP : xH xX kK m 0 ph) (hw : xget ph 169 on = some (.int w)) : ∀ (r t : Nat) (T : Int32), t + r = k + 1 → 1 ≤ t → T = Int32.ofNat t → Q (some (.int (ycZ w r t))) ph → xGT kK D 20 Q (88, [some (.ref 167), some (.int O), some (.int M), some (.int T), t0], [], ph, 0, 0) := by
  intro r
  induction r with
  | zero =>
    intro t T hr h1 hT kk
    have hT2 : T.toInt = (t : Int) := by rw [hT]; exact ynat (by omega)
    refine gt_load (v := .int T) (n := 1) (ykc_20 (e := (2, .iload_n kF3, 0)) rfl) rfl rfl ?_
    refine gt_load (v := .int M) (n := 1) (ykc_20 (e := (2, .iload_n kF2, 0)) rfl) rfl rfl ?_
    refine gt_igt_t (ykc_20 (e := (4, .if_icmp .gt 35, 125)) rfl) (by omega) ?_
    refine gt_alu (st' := [.int (Int32.ofInt 0)]) (ykc_20 (e := (0, .iconst 0, 0)) rfl) rfl rfl ?_
    refine gt_ret (ykc_20 (e := (7, .ireturn, 0)) rfl) rfl ?_
    exact kk
  | succ r ih =>
    intro t T hr h1 hT kk
    have hT2 : T.toInt = (t : Int) := by rw [hT]; exact ynat (by omega)
    have hz : ycZ w (r + 1) t = bif ycQ w T then T else ycZ w r (t + 1) := by rw [hT]; rfl
    rw [hz] at kk
    refine gt_load (v := .int T) (n := 1) (ykc_20 (e := (2, .iload_n kF3, 0)) rfl) rfl rfl ?_
    refine gt_load (v := .int M) (n := 1) (ykc_20 (e := (2, .iload_n kF2, 0)) rfl) rfl rfl ?_
    refine gt_igt_f (ykc_20 (e := (4, .if_icmp .gt 35, 125)) rfl) (by omega) rfl ?_
    refine gt_load (v := .int O) (n := 1) (ykc_20 (e := (2, .iload_n kF1, 0)) rfl) rfl rfl ?_
    refine gt_zlt_f (ykc_20 (e := (4, .ifCond .lt 31, 125)) rfl) (by omega) rfl ?_
    refine gt_load (v := .int O) (n := 1) (ykc_20 (e := (2, .iload_n kF1, 0)) rfl) rfl rfl ?_
    refine gt_push (v := .int ((Int8.ofInt 60).toInt32)) (n := 2) (ykc_20 (e := (1, .bipush 60, 0)) rfl) rfl rfl ?_
    refine gt_igt_f (ykc_20 (e := (4, .if_icmp .gt 25, 125)) rfl) (by rw [yb60]; omega) rfl ?_
    refine gt_load (v := .ref 167) (n := 1) (ykc_20 (e := (2, .aload_n kF0, 0)) rfl) rfl rfl ?_
    refine gt_wins hP (ykc_20 (e := (5, .getfield 15, 0)) rfl) rfl ?_
    refine gt_load (v := .int O) (n := 1) (ykc_20 (e := (2, .iload_n kF1, 0)) rfl) rfl rfl ?_
    refine gt_ial (A := 169) (ykc_20 (e := (5, .iaload, 0)) rfl) hP rfl rfl (by omega) (by omega) rfl (fun wv g_wv b_wv => ?_)
    obtain rfl : w = wv := (xget_int g_wv (by rw [show O.toInt.toNat = on by omega]; exact hw)).symm
    refine gt_load (v := .int T) (n := 1) (ykc_20 (e := (2, .iload_n kF3, 0)) rfl) rfl rfl ?_
    refine gt_alu (st' := [.int (w >>> (T &&& 31))]) (ykc_20 (e := (0, .ishr, 0)) rfl) rfl rfl ?_
    refine gt_alu (st' := [.int (Int32.ofInt 1), .int (w >>> (T &&& 31))]) (ykc_20 (e := (0, .iconst 1, 0)) rfl) rfl rfl ?_
    refine gt_alu (st' := [.int ((w >>> (T &&& 31)) &&& (Int32.ofInt 1))]) (ykc_20 (e := (0, .iand, 0)) rfl) rfl rfl ?_
    refine gt_alu (st' := [.int (Int32.ofInt 1), .int ((w >>> (T &&& 31)) &&& (Int32.ofInt 1))]) (ykc_20 (e := (0, .iconst 1, 0)) rfl) rfl rfl ?_
    by_cases hb : ((w >>> (T &&& 31)) &&& Int32.ofInt 1).toInt = (Int32.ofInt 1).toInt
    · refine gt_ine_f (ykc_20 (e := (4, .if_icmp .ne 5, 119)) rfl) hb rfl ?_
      refine gt_load (v := .int T) (n := 1) (ykc_20 (e := (2, .iload_n kF3, 0)) rfl) rfl rfl ?_
      refine gt_ret (ykc_20 (e := (7, .ireturn, 0)) rfl) rfl ?_
      rw [show ycQ w T = true from decide_eq_true hb] at kk
      exact kk
    · refine gt_ine_t (ykc_20 (e := (4, .if_icmp .ne 5, 119)) rfl) hb ?_
      refine gt_store (L' := [some (.ref 167), some (.int O), some (.int M), some (.int (T + Int32.ofInt 1)), t0]) (st' := []) (n := 3) (ykc_20 (e := (3, .iinc 3 1, 0)) rfl) rfl rfl ?_
      refine gt_br (pc' := 88) (st' := []) (ykc_20 (e := (4, .goto (-34), 88)) rfl) rfl ?_
      rw [show ycQ w T = false from decide_eq_false hb] at kk
      exact ih (t + 1) _ (by omega) (by omega) (ysuc hT (by omega)) kk
set_option maxRecDepth 6000 in
theorem ycWin (hE : xHE xX xgA_G8 xgF_G8 E) {k on : Nat} (k2 : 2 ≤ k) (k9 : k ≤ 9) (o60 : on ≤ 60) {M O : Int32} (hM : M.toInt = (k : Int)) (hO : O.toInt = (on : Int)) (hP : xH xX kK m 0 ph) (g9 : E ph) : ∃ r ph', pm_Rd kK false (D + 1) 20 [.ref 167, .int O, .int M] ph (r, ph', 0, 0) ∧ (r = some (.int (ywR k on 0)) ∧ xH xX kK m 0 ph' ∧ E ph') := by
  refine xRd_mk (nl := 5) rfl rfl ?_
  show xGT kK D 20 _ (0, [some (.ref 167), some (.int O), some (.int M), none, none], [], ph, 0, 0)
  refine gt_load (v := .ref 167) (n := 1) (ykc_20 (e := (2, .aload_n kF0, 0)) rfl) rfl rfl ?_
  refine gt_wins hP (ykc_20 (e := (5, .getfield 15, 0)) rfl) rfl ?_
  refine gt_alu (st' := [.int (Int32.ofInt 0), .ref 169]) (ykc_20 (e := (0, .iconst 0, 0)) rfl) rfl rfl ?_
  refine gt_alu (st' := [.int (Int32.ofInt 0), .int (Int32.ofInt 0), .ref 169]) (ykc_20 (e := (0, .iconst 0, 0)) rfl) rfl rfl ?_
  refine gt_ias (A := 169) (y := Int32.ofInt 0) (x := Int32.ofInt 0) (ykc_20 (e := (5, .iastore, 0)) rfl) hP rfl rfl (by decide) (by decide) xany rfl (fun ph1 hP1 u1 => ?_)
  refine gt_alu (st' := [.int (Int32.ofInt 1)]) (ykc_20 (e := (0, .iconst 1, 0)) rfl) rfl rfl ?_
  refine gt_store (L' := [some (.ref 167), some (.int O), some (.int M), some (.int (Int32.ofInt 1)), none]) (st' := []) (n := 1) (ykc_20 (e := (3, .istore_n kF3, 0)) rfl) rfl rfl ?_
  refine ycOut hE k2 k9 o60 hM hO (fun N' t0' ph' hW' hP' g9' => ?_) on 1 _ _ _ (by omega) (by omega) rfl (fun i hi => ?_) hP1 (xu1_E hE u1 rfl rfl rfl g9)
  · refine gt_alu (st' := [.int (Int32.ofInt 1)]) (ykc_20 (e := (0, .iconst 1, 0)) rfl) rfl rfl ?_
    refine gt_store (L' := [some (.ref 167), some (.int O), some (.int M), some (.int (Int32.ofInt 1)), t0']) (st' := []) (n := 1) (ykc_20 (e := (3, .istore_n kF3, 0)) rfl) rfl rfl ?_
    exact ycLast k9 o60 hM hO hP' hW' k 1 _ (by omega) (by omega) rfl ⟨by rw [yeqZ k2 k9 o60], hP', g9'⟩
  · obtain rfl : i = 0 := by omega
    rw [show ywC k 0 = Int32.ofInt 0 from (yeqC k2 k9 (Nat.zero_le _)).symm.trans (by rw [show min k 0 = 0 by omega]; rfl)]
    exact u1.1
set_option maxRecDepth 6000 in
theorem ycockC {n k : Int32} (hE : xHE xX xgA_G8 xgF_G8 E) (hP : xH xX kK m 0 ph) (g9 : E ph) : ∃ r ph', pm_Rd kK false (D + 1 + 1) 172 [.ref 0, .int n, .int k] ph (r, ph', 0, 0) ∧ (r = some (.int (ycK n k)) ∧ xH xX kK m 0 ph' ∧ E ph') := by
  refine xRd_mk (nl := 3) rfl rfl ?_
  show xGT kK (D + 1) 172 _ (0, [some (.ref 0), some (.int n), some (.int k)], [], ph, 0, 0)
  refine gt_load (v := .int n) (n := 1) (ykc_172 (e := (2, .iload_n kF1, 0)) rfl) rfl rfl ?_
  by_cases h0 : n.toInt < 0
  · refine gt_zlt_t (ykc_172 (e := (4, .ifCond .lt 20, 21)) rfl) h0 ?_
    refine gt_alu (st' := [.int (Int32.ofInt (-1))]) (ykc_172 (e := (0, .iconst (-1), 0)) rfl) rfl rfl ?_
    refine gt_ret (ykc_172 (e := (7, .ireturn, 0)) rfl) rfl ?_
    exact ⟨by unfold ycK; rw [if_neg (by omega)], hP, g9⟩
  · refine gt_zlt_f (ykc_172 (e := (4, .ifCond .lt 20, 21)) rfl) (by omega) rfl ?_
    refine gt_load (v := .int n) (n := 1) (ykc_172 (e := (2, .iload_n kF1, 0)) rfl) rfl rfl ?_
    refine gt_push (v := .int ((Int8.ofInt 60).toInt32)) (n := 2) (ykc_172 (e := (1, .bipush 60, 0)) rfl) rfl rfl ?_
    by_cases h1 : 60 < n.toInt
    · refine gt_igt_t (ykc_172 (e := (4, .if_icmp .gt 14, 21)) rfl) (by rw [yb60]; omega) ?_
      refine gt_alu (st' := [.int (Int32.ofInt (-1))]) (ykc_172 (e := (0, .iconst (-1), 0)) rfl) rfl rfl ?_
      refine gt_ret (ykc_172 (e := (7, .ireturn, 0)) rfl) rfl ?_
      exact ⟨by unfold ycK; rw [if_neg (by omega)], hP, g9⟩
    · refine gt_igt_f (ykc_172 (e := (4, .if_icmp .gt 14, 21)) rfl) (by rw [yb60]; omega) rfl ?_
      refine gt_load (v := .int k) (n := 1) (ykc_172 (e := (2, .iload_n kF2, 0)) rfl) rfl rfl ?_
      refine gt_alu (st' := [.int (Int32.ofInt 2), .int k]) (ykc_172 (e := (0, .iconst 2, 0)) rfl) rfl rfl ?_
      by_cases h2 : k.toInt < 2
      · refine gt_ilt_t (ykc_172 (e := (4, .if_icmp .lt 9, 21)) rfl) (by rw [yn2]; omega) ?_
        refine gt_alu (st' := [.int (Int32.ofInt (-1))]) (ykc_172 (e := (0, .iconst (-1), 0)) rfl) rfl rfl ?_
        refine gt_ret (ykc_172 (e := (7, .ireturn, 0)) rfl) rfl ?_
        exact ⟨by unfold ycK; rw [if_neg (by omega)], hP, g9⟩
      · refine gt_ilt_f (ykc_172 (e := (4, .if_icmp .lt 9, 21)) rfl) (by rw [yn2]; omega) rfl ?_
        refine gt_load (v := .int k) (n := 1) (ykc_172 (e := (2, .iload_n kF2, 0)) rfl) rfl rfl ?_
        refine gt_push (v := .int ((Int8.ofInt 9).toInt32)) (n := 2) (ykc_172 (e := (1, .bipush 9, 0)) rfl) rfl rfl ?_
        by_cases h3 : 9 < k.toInt
        · refine gt_ile_f (ykc_172 (e := (4, .if_icmp .le 5, 23)) rfl) (by rw [yb9]; omega) rfl ?_
          refine gt_alu (st' := [.int (Int32.ofInt (-1))]) (ykc_172 (e := (0, .iconst (-1), 0)) rfl) rfl rfl ?_
          refine gt_ret (ykc_172 (e := (7, .ireturn, 0)) rfl) rfl ?_
          exact ⟨by unfold ycK; rw [if_neg (by omega)], hP, g9⟩
        · refine gt_ile_t (ykc_172 (e := (4, .if_icmp .le 5, 23)) rfl) (by rw [yb9]; omega) ?_
          obtain ⟨fl0, hat0, hfl0⟩ := xO_at (a := 0) hP rfl rfl
          obtain ⟨v4, hv4, hv⟩ := hfl0 12 _ rfl
          have e4 : v4 = .ref 167 := xaO (m' := 0) (A := 167) hP rfl hv
          subst e4
          refine gt_load (v := .ref 0) (n := 1) (ykc_172 (e := (2, .aload_n kF0, 0)) rfl) rfl rfl ?_
          refine gt_gfo (ykc_172 (e := (5, .getfield 90, 0)) rfl) rfl hat0 hv4 rfl ?_
          refine gt_load (v := .int n) (n := 1) (ykc_172 (e := (2, .iload_n kF1, 0)) rfl) rfl rfl ?_
          refine gt_load (v := .int k) (n := 1) (ykc_172 (e := (2, .iload_n kF2, 0)) rfl) rfl rfl ?_
          obtain ⟨fl2, hatg, -⟩ := xO_at (a := 167) hP rfl rfl
          refine gt_call (r := []) (ykc_172 (e := (6, .invokevirtual 387, 0)) rfl) (xinvV rfl rfl hatg rfl rfl) (ycWin (D := D) (k := k.toInt.toNat) (on := n.toInt.toNat) hE (by omega) (by omega) (by omega) (by omega) (by omega) hP g9) rfl (fun vv ph2 hv => ?_)
          obtain ⟨e9, hP2, g92⟩ := hv; subst e9
          refine gt_ret (ykc_172 (e := (7, .ireturn, 0)) rfl) rfl ?_
          exact ⟨by unfold ycK; rw [if_pos (by omega)], hP2, g92⟩
set_option maxRecDepth 6000 in
theorem yqbeq {a b : Nat} (h : a ≠ b) : Nat.beq a b = false := by
  cases e : Nat.beq a b with
  | false => rfl
  | true => exact absurd (Nat.eq_of_beq_eq_true e) h
set_option maxRecDepth 6000 in
theorem yqbeqt {a b : Nat} (h : a = b) : Nat.beq a b = true := by subst h; exact Nat.beq_refl a
set_option maxRecDepth 6000 in
theorem ynm : (Int32.ofInt (-1)).toInt = -1 := by decide
set_option maxRecDepth 6000 in
theorem ymT (hE : xHE xX xgA_G59 xgF_G59 E) {kn l a : Nat} (k2 : 2 ≤ kn) (k9 : kn ≤ 9) (l60 : l ≤ 60) (a9 : a ≤ 9) {n k L A X : Int32} (hL : L.toInt = (l : Int)) (hA : A.toInt = (a : Int)) (hX : X.toInt = 10 * (l : Int) + (a : Int)) (kk : ∀ (T : Int32) (ph : pm_H), (∀ l' a', l' < l → a' ≤ 9 → xget ph 196 (10 * l' + a') = some (.int (ywR kn l' a'))) → (∀ a', a' ≤ a → xget ph 196 (10 * l + a') = some (.int (ywR kn l a'))) → xH xX kK m 0 ph → E ph → xGT kK (D + 1) 289 Q (129, [some (.ref 170), some (.int n), some (.int k), some (.int L), some (.int A), some (.int X), some (.int T)], [], ph, 0, 0)) : ∀ (r s : Nat) (T : Int32) (ph : pm_H), s + r = min kn l → T.toInt = ((min kn l - s : Nat) : Int) → (∀ l' a', l' < l → a' ≤ 9 → xget ph 196 (10 * l' + a') = some (.int (ywR kn l' a'))) → (∀ a', a' < a → xget ph 196 (10 * l + a') = some (.int (ywR kn l a'))) → xget ph 196 (10 * l + a) = some (.int (yjR kn l a (min kn l) s)) → xH xX kK m 0 ph → E ph → xGT kK (D + 1) 289 Q (74, [some (.ref 170), some (.int n), some (.int k), some (.int L), some (.int A), some (.int X), some (.int T)], [], ph, 0, 0) := by
  intro r
  induction r with
  | zero =>
    intro s T ph hs hT hW hW2 hx hP g9
    have h20 : (Int32.ofInt 0).toInt = 0 := yn0
    refine gt_load (v := .int T) (n := 2) (ykc_289 (e := (2, .iload 6, 0)) rfl) rfl rfl ?_
    refine gt_zle_t (ykc_289 (e := (4, .ifCond .le 53, 129)) rfl) (by omega) ?_
    refine kk _ _ hW (fun a' h => ?_) hP g9
    by_cases e : a' = a
    · subst e
      rw [hx, show s = min kn l by omega, yeqR k2 k9 l60 a9]
    · exact hW2 a' (by omega)
  | succ r ih =>
    intro s T ph hs hT hW hW2 hx hP g9
    refine gt_load (v := .int T) (n := 2) (ykc_289 (e := (2, .iload 6, 0)) rfl) rfl rfl ?_
    refine gt_zle_f (ykc_289 (e := (4, .ifCond .le 53, 129)) rfl) (by omega) rfl ?_
    refine gt_load (v := .ref 170) (n := 1) (ykc_289 (e := (2, .aload_n kF0, 0)) rfl) rfl rfl ?_
    refine gt_gfr (A := 196) (ykc_289 (e := (5, .getfield 107, 0)) rfl) rfl hP rfl rfl rfl ?_
    refine gt_load (v := .int X) (n := 2) (ykc_289 (e := (2, .iload 5, 0)) rfl) rfl rfl ?_
    refine gt_load (v := .int T) (n := 2) (ykc_289 (e := (2, .iload 6, 0)) rfl) rfl rfl ?_
    refine gt_load (v := .int A) (n := 2) (ykc_289 (e := (2, .iload 4, 0)) rfl) rfl rfl ?_
    by_cases ha : T.toInt = A.toInt
    · refine gt_ieq_t (ykc_289 (e := (4, .if_icmp .eq 26, 115)) rfl) ha ?_
      refine gt_load (v := .ref 170) (n := 1) (ykc_289 (e := (2, .aload_n kF0, 0)) rfl) rfl rfl ?_
      refine gt_gfr (A := 196) (ykc_289 (e := (5, .getfield 107, 0)) rfl) rfl hP rfl rfl rfl ?_
      refine gt_load (v := .int X) (n := 2) (ykc_289 (e := (2, .iload 5, 0)) rfl) rfl rfl ?_
      refine gt_ial (A := 196) (ykc_289 (e := (5, .iaload, 0)) rfl) hP rfl rfl (by omega) (by omega) rfl (fun wy g_wy b_wy => ?_)
      obtain rfl : wy = yjR kn l a (min kn l) s := xget_int g_wy (by rw [show X.toInt.toNat = 10 * l + a by omega]; exact hx)
      refine gt_ias (A := 196) (y := yjR kn l a (min kn l) s) (x := X) (ykc_289 (e := (5, .iastore, 0)) rfl) hP rfl rfl (by omega) (by omega) xany rfl (fun ph101 hP101 u101 => ?_)
      obtain ⟨T1, e_T1, h_T1⟩ : ∃ zq : Int32, T + Int32.ofInt (-1) = zq ∧ zq.toInt = T.toInt + -1 := ⟨_, rfl, by rw [ti_add (by rw [ynm]; omega) (by rw [ynm]; omega), ynm]⟩
      refine gt_store (L' := [some (.ref 170), some (.int n), some (.int k), some (.int L), some (.int A), some (.int X), some (.int T1)]) (st' := []) (n := 3) (ykc_289 (e := (3, .iinc 6 (-1), 0)) rfl) (by rw [← e_T1]; rfl) rfl ?_
      refine gt_br (pc' := 74) (st' := []) (ykc_289 (e := (4, .goto (-52), 74)) rfl) rfl ?_
      have hB : yjR kn l a (min kn l) (s + 1) = yjR kn l a (min kn l) s := by
        show (bif yqR kn l a (min kn l - s) then Int32.ofNat (min kn l - s) else yjR kn l a (min kn l) s) = _
        rw [show yqR kn l a (min kn l - s) = false by unfold yqR; rw [show Nat.beq (min kn l - s) a = true from yqbeqt (by omega)]; rfl, cond_false]
      exact ih (s + 1) _ _ (by omega) (by rw [h_T1]; omega) (fun l' a' h1 h2 => (u101.2.1 196 _ (fun q => by have := q.2; omega)).trans (hW l' a' h1 h2)) (fun a' h2 => (u101.2.1 196 _ (fun q => by have := q.2; omega)).trans (hW2 a' h2)) (by rw [hB, ← u101.1, show X.toInt.toNat = 10 * l + a by omega]) hP101 (xu1_E hE u101 rfl rfl rfl g9)
    · refine gt_ieq_f (ykc_289 (e := (4, .if_icmp .eq 26, 115)) rfl) ha rfl ?_
      refine gt_load (v := .ref 170) (n := 1) (ykc_289 (e := (2, .aload_n kF0, 0)) rfl) rfl rfl ?_
      refine gt_gfr (A := 196) (ykc_289 (e := (5, .getfield 107, 0)) rfl) rfl hP rfl rfl rfl ?_
      refine gt_push (v := .int ((Int8.ofInt 10).toInt32)) (n := 2) (ykc_289 (e := (1, .bipush 10, 0)) rfl) rfl rfl ?_
      refine gt_load (v := .int L) (n := 1) (ykc_289 (e := (2, .iload_n kF3, 0)) rfl) rfl rfl ?_
      refine gt_load (v := .int T) (n := 2) (ykc_289 (e := (2, .iload 6, 0)) rfl) rfl rfl ?_
      obtain ⟨d1, e_d1, h_d1⟩ : ∃ zq : Int32, L - T = zq ∧ zq.toInt = L.toInt - T.toInt := ⟨_, rfl, by rw [ti_sub (by omega) (by omega)]⟩
      refine gt_alu (st' := [.int d1, .int ((Int8.ofInt 10).toInt32), .ref 196, .int X, .ref 196]) (ykc_289 (e := (0, .isub, 0)) rfl) (by rw [← e_d1]; exact rfl) rfl ?_
      obtain ⟨d2, e_d2, h_d2⟩ : ∃ zq : Int32, ((Int8.ofInt 10).toInt32) * d1 = zq ∧ zq.toInt = 10 * (L.toInt - T.toInt) := ⟨_, rfl, by rw [ti_mul (by rw [yb10, h_d1]; omega) (by rw [yb10, h_d1]; omega), yb10, h_d1]⟩
      refine gt_alu (st' := [.int d2, .ref 196, .int X, .ref 196]) (ykc_289 (e := (0, .imul, 0)) rfl) (by rw [← e_d2]; exact rfl) rfl ?_
      refine gt_load (v := .int T) (n := 2) (ykc_289 (e := (2, .iload 6, 0)) rfl) rfl rfl ?_
      obtain ⟨d3, e_d3, h_d3⟩ : ∃ zq : Int32, d2 + T = zq ∧ zq.toInt = 10 * (L.toInt - T.toInt) + T.toInt := ⟨_, rfl, by rw [ti_add (by rw [h_d2]; omega) (by rw [h_d2]; omega), h_d2]⟩
      refine gt_alu (st' := [.int d3, .ref 196, .int X, .ref 196]) (ykc_289 (e := (0, .iadd, 0)) rfl) (by rw [← e_d3]; exact rfl) rfl ?_
      refine gt_ial (A := 196) (ykc_289 (e := (5, .iaload, 0)) rfl) hP rfl rfl (by rw [h_d3]; omega) (by rw [h_d3]; omega) rfl (fun wv g_wv b_wv => ?_)
      obtain rfl : wv = ywR kn (l - (min kn l - s)) (min kn l - s) := xget_int g_wv (by rw [show d3.toInt.toNat = 10 * (l - (min kn l - s)) + (min kn l - s) by omega]; exact hW _ _ (by omega) (by omega))
      by_cases hb : (ywR kn (l - (min kn l - s)) (min kn l - s)).toInt = 0
      · refine gt_zne_f (ykc_289 (e := (4, .ifCond .ne 8, 115)) rfl) hb rfl ?_
        refine gt_load (v := .int T) (n := 2) (ykc_289 (e := (2, .iload 6, 0)) rfl) rfl rfl ?_
        refine gt_br (pc' := 122) (st' := [.int T, .int X, .ref 196]) (ykc_289 (e := (4, .goto 10, 122)) rfl) rfl ?_
        refine gt_ias (A := 196) (y := T) (x := X) (ykc_289 (e := (5, .iastore, 0)) rfl) hP rfl rfl (by omega) (by omega) xany rfl (fun ph201 hP201 u201 => ?_)
        obtain ⟨T1, e_T1, h_T1⟩ : ∃ zq : Int32, T + Int32.ofInt (-1) = zq ∧ zq.toInt = T.toInt + -1 := ⟨_, rfl, by rw [ti_add (by rw [ynm]; omega) (by rw [ynm]; omega), ynm]⟩
        refine gt_store (L' := [some (.ref 170), some (.int n), some (.int k), some (.int L), some (.int A), some (.int X), some (.int T1)]) (st' := []) (n := 3) (ykc_289 (e := (3, .iinc 6 (-1), 0)) rfl) (by rw [← e_T1]; rfl) rfl ?_
        refine gt_br (pc' := 74) (st' := []) (ykc_289 (e := (4, .goto (-52), 74)) rfl) rfl ?_
        have hB : yjR kn l a (min kn l) (s + 1) = T := by
          show (bif yqR kn l a (min kn l - s) then Int32.ofNat (min kn l - s) else yjR kn l a (min kn l) s) = _
          rw [show yqR kn l a (min kn l - s) = true by unfold yqR; rw [show Nat.beq (min kn l - s) a = false from yqbeq (by omega), decide_eq_true hb]; rfl, cond_true]
          exact Int32.toInt_inj.mp (by rw [ynat (by omega)]; omega)
        exact ih (s + 1) _ _ (by omega) (by rw [h_T1]; omega) (fun l' a' h1 h2 => (u201.2.1 196 _ (fun q => by have := q.2; omega)).trans (hW l' a' h1 h2)) (fun a' h2 => (u201.2.1 196 _ (fun q => by have := q.2; omega)).trans (hW2 a' h2)) (by rw [hB, ← u201.1, show X.toInt.toNat = 10 * l + a by omega]) hP201 (xu1_E hE u201 rfl rfl rfl g9)
      · refine gt_zne_t (ykc_289 (e := (4, .ifCond .ne 8, 115)) rfl) hb ?_
        refine gt_load (v := .ref 170) (n := 1) (ykc_289 (e := (2, .aload_n kF0, 0)) rfl) rfl rfl ?_
        refine gt_gfr (A := 196) (ykc_289 (e := (5, .getfield 107, 0)) rfl) rfl hP rfl rfl rfl ?_
        refine gt_load (v := .int X) (n := 2) (ykc_289 (e := (2, .iload 5, 0)) rfl) rfl rfl ?_
        refine gt_ial (A := 196) (ykc_289 (e := (5, .iaload, 0)) rfl) hP rfl rfl (by omega) (by omega) rfl (fun wy g_wy b_wy => ?_)
        obtain rfl : wy = yjR kn l a (min kn l) s := xget_int g_wy (by rw [show X.toInt.toNat = 10 * l + a by omega]; exact hx)
        refine gt_ias (A := 196) (y := yjR kn l a (min kn l) s) (x := X) (ykc_289 (e := (5, .iastore, 0)) rfl) hP rfl rfl (by omega) (by omega) xany rfl (fun ph201 hP201 u201 => ?_)
        obtain ⟨T1, e_T1, h_T1⟩ : ∃ zq : Int32, T + Int32.ofInt (-1) = zq ∧ zq.toInt = T.toInt + -1 := ⟨_, rfl, by rw [ti_add (by rw [ynm]; omega) (by rw [ynm]; omega), ynm]⟩
        refine gt_store (L' := [some (.ref 170), some (.int n), some (.int k), some (.int L), some (.int A), some (.int X), some (.int T1)]) (st' := []) (n := 3) (ykc_289 (e := (3, .iinc 6 (-1), 0)) rfl) (by rw [← e_T1]; rfl) rfl ?_
        refine gt_br (pc' := 74) (st' := []) (ykc_289 (e := (4, .goto (-52), 74)) rfl) rfl ?_
        have hB : yjR kn l a (min kn l) (s + 1) = yjR kn l a (min kn l) s := by
          show (bif yqR kn l a (min kn l - s) then Int32.ofNat (min kn l - s) else yjR kn l a (min kn l) s) = _
          rw [show yqR kn l a (min kn l - s) = false by unfold yqR; rw [decide_eq_false hb, Bool.and_false], cond_false]
        exact ih (s + 1) _ _ (by omega) (by rw [h_T1]; omega) (fun l' a' h1 h2 => (u201.2.1 196 _ (fun q => by have := q.2; omega)).trans (hW l' a' h1 h2)) (fun a' h2 => (u201.2.1 196 _ (fun q => by have := q.2; omega)).trans (hW2 a' h2)) (by rw [hB, ← u201.1, show X.toInt.toNat = 10 * l + a by omega]) hP201 (xu1_E hE u201 rfl rfl rfl g9)
set_option maxRecDepth 6000 in
theorem ymA (hE : xHE xX xgA_G59 xgF_G59 E) {kn l : Nat} (k2 : 2 ≤ kn) (k9 : kn ≤ 9) (l60 : l ≤ 60) {n k L : Int32} (hk : k.toInt = (kn : Int)) (hL : L.toInt = (l : Int)) (kk : ∀ (A : Int32) (x0 t0 : Option Value) (ph : pm_H), (∀ l' a', l' ≤ l → a' ≤ 9 → xget ph 196 (10 * l' + a') = some (.int (ywR kn l' a'))) → xH xX kK m 0 ph → E ph → xGT kK (D + 1) 289 Q (135, [some (.ref 170), some (.int n), some (.int k), some (.int L), some (.int A), x0, t0], [], ph, 0, 0)) : ∀ (r a : Nat) (A : Int32) (x0 t0 : Option Value) (ph : pm_H), a + r = 10 → A = Int32.ofNat a → (∀ l' a', l' < l → a' ≤ 9 → xget ph 196 (10 * l' + a') = some (.int (ywR kn l' a'))) → (∀ a', a' < a → xget ph 196 (10 * l + a') = some (.int (ywR kn l a'))) → xH xX kK m 0 ph → E ph → xGT kK (D + 1) 289 Q (43, [some (.ref 170), some (.int n), some (.int k), some (.int L), some (.int A), x0, t0], [], ph, 0, 0) := by
  intro r
  induction r with
  | zero =>
    intro a A x0 t0 ph hr hA hW hW2 hP g9
    have hA2 : A.toInt = (a : Int) := by rw [hA]; exact ynat (by omega)
    refine gt_load (v := .int A) (n := 2) (ykc_289 (e := (2, .iload 4, 0)) rfl) rfl rfl ?_
    refine gt_push (v := .int ((Int8.ofInt 10).toInt32)) (n := 2) (ykc_289 (e := (1, .bipush 10, 0)) rfl) rfl rfl ?_
    refine gt_ige_t (ykc_289 (e := (4, .if_icmp .ge 88, 135)) rfl) (by rw [yb10]; omega) ?_
    refine kk _ _ _ _ (fun l' a' h1 h2 => ?_) hP g9
    by_cases e : l' = l
    · subst e
      exact hW2 a' (by omega)
    · exact hW l' a' (by omega) h2
  | succ r ih =>
    intro a A x0 t0 ph hr hA hW hW2 hP g9
    have hA2 : A.toInt = (a : Int) := by rw [hA]; exact ynat (by omega)
    refine gt_load (v := .int A) (n := 2) (ykc_289 (e := (2, .iload 4, 0)) rfl) rfl rfl ?_
    refine gt_push (v := .int ((Int8.ofInt 10).toInt32)) (n := 2) (ykc_289 (e := (1, .bipush 10, 0)) rfl) rfl rfl ?_
    refine gt_ige_f (ykc_289 (e := (4, .if_icmp .ge 88, 135)) rfl) (by rw [yb10]; omega) rfl ?_
    refine gt_push (v := .int ((Int8.ofInt 10).toInt32)) (n := 2) (ykc_289 (e := (1, .bipush 10, 0)) rfl) rfl rfl ?_
    refine gt_load (v := .int L) (n := 1) (ykc_289 (e := (2, .iload_n kF3, 0)) rfl) rfl rfl ?_
    obtain ⟨x1, e_x1, h_x1⟩ : ∃ zq : Int32, ((Int8.ofInt 10).toInt32) * L = zq ∧ zq.toInt = 10 * L.toInt := ⟨_, rfl, by rw [ti_mul (by rw [yb10]; omega) (by rw [yb10]; omega), yb10]⟩
    refine gt_alu (st' := [.int x1]) (ykc_289 (e := (0, .imul, 0)) rfl) (by rw [← e_x1]; exact rfl) rfl ?_
    refine gt_load (v := .int A) (n := 2) (ykc_289 (e := (2, .iload 4, 0)) rfl) rfl rfl ?_
    obtain ⟨X, e_X, h_X⟩ : ∃ zq : Int32, x1 + A = zq ∧ zq.toInt = 10 * L.toInt + A.toInt := ⟨_, rfl, by rw [ti_add (by rw [h_x1]; omega) (by rw [h_x1]; omega), h_x1]⟩
    refine gt_alu (st' := [.int X]) (ykc_289 (e := (0, .iadd, 0)) rfl) (by rw [← e_X]; exact rfl) rfl ?_
    refine gt_store (L' := [some (.ref 170), some (.int n), some (.int k), some (.int L), some (.int A), some (.int X), t0]) (st' := []) (n := 2) (ykc_289 (e := (3, .istore 5, 0)) rfl) rfl rfl ?_
    refine gt_load (v := .ref 170) (n := 1) (ykc_289 (e := (2, .aload_n kF0, 0)) rfl) rfl rfl ?_
    refine gt_gfr (A := 196) (ykc_289 (e := (5, .getfield 107, 0)) rfl) rfl hP rfl rfl rfl ?_
    refine gt_load (v := .int X) (n := 2) (ykc_289 (e := (2, .iload 5, 0)) rfl) rfl rfl ?_
    refine gt_alu (st' := [.int (Int32.ofInt 0), .int X, .ref 196]) (ykc_289 (e := (0, .iconst 0, 0)) rfl) rfl rfl ?_
    refine gt_ias (A := 196) (y := Int32.ofInt 0) (x := X) (ykc_289 (e := (5, .iastore, 0)) rfl) hP rfl rfl (by rw [h_X]; omega) (by rw [h_X]; omega) xany rfl (fun ph1 hP1 u1 => ?_)
    refine gt_load (v := .int k) (n := 1) (ykc_289 (e := (2, .iload_n kF2, 0)) rfl) rfl rfl ?_
    refine gt_load (v := .int L) (n := 1) (ykc_289 (e := (2, .iload_n kF3, 0)) rfl) rfl rfl ?_
    obtain ⟨T, e_T⟩ : ∃ zq : Int32, (if L < k then L else k) = zq := ⟨_, rfl⟩
    refine gt_mem (n := 3) (st' := [.int T]) (ph' := ph1) (ykc_289 (e := (5, .invokestatic 145, 0)) rfl) (by rw [← e_T]; rfl) rfl ?_
    refine gt_store (L' := [some (.ref 170), some (.int n), some (.int k), some (.int L), some (.int A), some (.int X), some (.int T)]) (st' := []) (n := 2) (ykc_289 (e := (3, .istore 6, 0)) rfl) rfl rfl ?_
    have eX : X.toInt.toNat = 10 * l + a := by omega
    have hT : T.toInt = ((min kn l : Nat) : Int) := by
      rw [← e_T]
      by_cases q : L < k
      · rw [if_pos q]
        have := x32lt.mp q
        omega
      · rw [if_neg q]
        have : ¬ L.toInt < k.toInt := fun q2 => q (x32lt.mpr q2)
        omega
    refine ymT hE k2 k9 l60 (by omega) hL hA2 (by omega) (fun T' ph' hW' hW2' hP' g9' => ?_) (min kn l) 0 _ _ (by omega) (by rw [hT, Nat.sub_zero]) (fun l' a' h1 h2 => (u1.2.1 196 _ (fun q => by have := q.2; omega)).trans (hW l' a' h1 h2)) (fun a' h2 => (u1.2.1 196 _ (fun q => by have := q.2; omega)).trans (hW2 a' h2)) (by rw [← eX]; exact u1.1) hP1 (xu1_E hE u1 rfl rfl rfl g9)
    refine gt_store (L' := [some (.ref 170), some (.int n), some (.int k), some (.int L), some (.int (A + Int32.ofInt 1)), some (.int X), some (.int (T'))]) (st' := []) (n := 3) (ykc_289 (e := (3, .iinc 4 1, 0)) rfl) rfl rfl ?_
    refine gt_br (pc' := 43) (st' := []) (ykc_289 (e := (4, .goto (-89), 43)) rfl) rfl ?_
    exact ih (a + 1) _ _ _ _ (by omega) (ysuc hA (by omega)) hW' (fun a' h => hW2' a' (by omega)) hP' g9'
set_option maxRecDepth 6000 in
theorem ymL (hE : xHE xX xgA_G59 xgF_G59 E) {kn nn : Nat} (k2 : 2 ≤ kn) (k9 : kn ≤ 9) (n60 : nn ≤ 60) {n k : Int32} (hk : k.toInt = (kn : Int)) (hn : n.toInt = (nn : Int)) (kk : ∀ (ph : pm_H), xH xX kK m 0 ph → E ph → Q (some (.int (ywR kn nn 0))) ph) : ∀ (r l : Nat) (L : Int32) (a0 x0 t0 : Option Value) (ph : pm_H), l + r = nn + 1 → L = Int32.ofNat l → (∀ l' a', l' < l → a' ≤ 9 → xget ph 196 (10 * l' + a') = some (.int (ywR kn l' a'))) → xH xX kK m 0 ph → E ph → xGT kK (D + 1) 289 Q (35, [some (.ref 170), some (.int n), some (.int k), some (.int L), a0, x0, t0], [], ph, 0, 0) := by
  intro r
  induction r with
  | zero =>
    intro l L a0 x0 t0 ph hr hL hW hP g9
    have hL2 : L.toInt = (l : Int) := by rw [hL]; exact ynat (by omega)
    refine gt_load (v := .int L) (n := 1) (ykc_289 (e := (2, .iload_n kF3, 0)) rfl) rfl rfl ?_
    refine gt_load (v := .int n) (n := 1) (ykc_289 (e := (2, .iload_n kF1, 0)) rfl) rfl rfl ?_
    refine gt_igt_t (ykc_289 (e := (4, .if_icmp .gt 104, 141)) rfl) (by omega) ?_
    refine gt_load (v := .ref 170) (n := 1) (ykc_289 (e := (2, .aload_n kF0, 0)) rfl) rfl rfl ?_
    refine gt_gfr (A := 196) (ykc_289 (e := (5, .getfield 107, 0)) rfl) rfl hP rfl rfl rfl ?_
    refine gt_push (v := .int ((Int8.ofInt 10).toInt32)) (n := 2) (ykc_289 (e := (1, .bipush 10, 0)) rfl) rfl rfl ?_
    refine gt_load (v := .int n) (n := 1) (ykc_289 (e := (2, .iload_n kF1, 0)) rfl) rfl rfl ?_
    obtain ⟨x1, e_x1, h_x1⟩ : ∃ zq : Int32, ((Int8.ofInt 10).toInt32) * n = zq ∧ zq.toInt = 10 * n.toInt := ⟨_, rfl, by rw [ti_mul (by rw [yb10]; omega) (by rw [yb10]; omega), yb10]⟩
    refine gt_alu (st' := [.int x1, .ref 196]) (ykc_289 (e := (0, .imul, 0)) rfl) (by rw [← e_x1]; exact rfl) rfl ?_
    refine gt_ial (A := 196) (ykc_289 (e := (5, .iaload, 0)) rfl) hP rfl rfl (by rw [h_x1]; omega) (by rw [h_x1]; omega) rfl (fun wv g_wv b_wv => ?_)
    obtain rfl : wv = ywR kn nn 0 := xget_int g_wv (by rw [show x1.toInt.toNat = 10 * nn + 0 by omega]; exact hW _ _ (by omega) (by omega))
    refine gt_ret (ykc_289 (e := (7, .ireturn, 0)) rfl) rfl ?_
    exact kk _ hP g9
  | succ r ih =>
    intro l L a0 x0 t0 ph hr hL hW hP g9
    have hL2 : L.toInt = (l : Int) := by rw [hL]; exact ynat (by omega)
    refine gt_load (v := .int L) (n := 1) (ykc_289 (e := (2, .iload_n kF3, 0)) rfl) rfl rfl ?_
    refine gt_load (v := .int n) (n := 1) (ykc_289 (e := (2, .iload_n kF1, 0)) rfl) rfl rfl ?_
    refine gt_igt_f (ykc_289 (e := (4, .if_icmp .gt 104, 141)) rfl) (by omega) rfl ?_
    refine gt_alu (st' := [.int (Int32.ofInt 0)]) (ykc_289 (e := (0, .iconst 0, 0)) rfl) rfl rfl ?_
    refine gt_store (L' := [some (.ref 170), some (.int n), some (.int k), some (.int L), some (.int (Int32.ofInt 0)), x0, t0]) (st' := []) (n := 2) (ykc_289 (e := (3, .istore 4, 0)) rfl) rfl rfl ?_
    refine ymA hE k2 k9 (by omega) hk hL2 (fun A' x0' t0' ph' hW' hP' g9' => ?_) 10 0 _ _ _ _ rfl (by decide) hW (fun a' h => absurd h (Nat.not_lt_zero _)) hP g9
    refine gt_store (L' := [some (.ref 170), some (.int n), some (.int k), some (.int (L + Int32.ofInt 1)), some (.int (A')), x0', t0']) (st' := []) (n := 3) (ykc_289 (e := (3, .iinc 3 1, 0)) rfl) rfl rfl ?_
    refine gt_br (pc' := 35) (st' := []) (ykc_289 (e := (4, .goto (-103), 35)) rfl) rfl ?_
    exact ih (l + 1) _ _ _ _ _ (by omega) (ysuc hL (by omega)) (fun l' a' h1 h2 => hW' l' a' (by omega) h2) hP' g9'
set_option maxRecDepth 6000 in
theorem ycockM {n k : Int32} (hE : xHE xX xgA_G59 xgF_G59 E) (hP : xH xX kK m 0 ph) (g9 : E ph) : ∃ r ph', pm_Rd kK false (D + 1 + 1) 289 [.ref 170, .int n, .int k] ph (r, ph', 0, 0) ∧ (r = some (.int (ycK n k)) ∧ xH xX kK m 0 ph' ∧ E ph') := by
  refine xRd_mk (nl := 7) rfl rfl ?_
  show xGT kK (D + 1) 289 _ (0, [some (.ref 170), some (.int n), some (.int k), none, none, none, none], [], ph, 0, 0)
  refine gt_load (v := .ref 170) (n := 1) (ykc_289 (e := (2, .aload_n kF0, 0)) rfl) rfl rfl ?_
  refine gt_alu (st' := [.int (Int32.ofInt 0), .ref 170]) (ykc_289 (e := (0, .iconst 0, 0)) rfl) rfl rfl ?_
  refine gt_pf (y := Int32.ofInt 0) (ykc_289 (e := (5, .putfield 3, 0)) rfl) rfl hP rfl rfl (by decide) (by decide) rfl (fun ph1 hP1 u1 => ?_)
  refine gt_load (v := .int n) (n := 1) (ykc_289 (e := (2, .iload_n kF1, 0)) rfl) rfl rfl ?_
  refine gt_alu (st' := [.long n.toInt64]) (ykc_289 (e := (0, .i2l, 0)) rfl) rfl rfl ?_
  refine gt_alu (st' := [.long (Int64.ofNat kG0), .long n.toInt64]) (ykc_289 (e := (0, .lconst kG0, 0)) rfl) rfl rfl ?_
  refine gt_push (v := .long (60 : Int64)) (n := 3) (ykc_289 (e := (1, .ldc2_w 361, 0)) rfl) rfl rfl ?_
  refine gt_cs (n := 3) (as := [.long n.toInt64, .long (Int64.ofNat kG0), .long (60 : Int64)]) (r := []) (ykc_289 (e := (6, .invokestatic 126, 0)) rfl) rfl rfl rfl rfl (xin_run (D := D)) rfl (fun vv ph2 hv => ?_)
  obtain ⟨z, e9, e8, z_s⟩ := hv; subst e9; have e7 := e8.symm; subst e7; rw [tl_i2l, show (Int64.ofNat ↑kG0).toInt = 0 from by decide, show (60 : Int64).toInt = 60 from rfl] at z_s
  change xGT kK (D + 1) 289 _ (14, [some (.ref 170), some (.int n), some (.int k), none, none, none, none], [.int z], ph1, 0, 0)
  have g1 := xu1_E hE u1 rfl rfl rfl g9
  by_cases hz : z.toInt = 0
  · refine gt_zeq_t (ykc_289 (e := (4, .ifCond .eq 17, 31)) rfl) hz ?_
    refine gt_alu (st' := [.int (Int32.ofInt (-1))]) (ykc_289 (e := (0, .iconst (-1), 0)) rfl) rfl rfl ?_
    refine gt_ret (ykc_289 (e := (7, .ireturn, 0)) rfl) rfl ?_
    exact ⟨by unfold ycK; rw [if_neg (by omega)], hP1, g1⟩
  · refine gt_zeq_f (ykc_289 (e := (4, .ifCond .eq 17, 31)) rfl) hz rfl ?_
    refine gt_load (v := .int k) (n := 1) (ykc_289 (e := (2, .iload_n kF2, 0)) rfl) rfl rfl ?_
    refine gt_alu (st' := [.long k.toInt64]) (ykc_289 (e := (0, .i2l, 0)) rfl) rfl rfl ?_
    refine gt_push (v := .long (2 : Int64)) (n := 3) (ykc_289 (e := (1, .ldc2_w 330, 0)) rfl) rfl rfl ?_
    refine gt_push (v := .long (9 : Int64)) (n := 3) (ykc_289 (e := (1, .ldc2_w 461, 0)) rfl) rfl rfl ?_
    refine gt_cs (n := 3) (as := [.long k.toInt64, .long (2 : Int64), .long (9 : Int64)]) (r := []) (ykc_289 (e := (6, .invokestatic 126, 0)) rfl) rfl rfl rfl rfl (xin_run (D := D)) rfl (fun vv ph103 hv => ?_)
    obtain ⟨y, e9, e8, y_s⟩ := hv; subst e9; have e7 := e8.symm; subst e7; rw [tl_i2l, show (2 : Int64).toInt = 2 from rfl, show (9 : Int64).toInt = 9 from rfl] at y_s
    change xGT kK (D + 1) 289 _ (28, [some (.ref 170), some (.int n), some (.int k), none, none, none, none], [.int y], ph1, 0, 0)
    by_cases hy : y.toInt = 0
    · refine gt_zne_f (ykc_289 (e := (4, .ifCond .ne 5, 33)) rfl) hy rfl ?_
      refine gt_alu (st' := [.int (Int32.ofInt (-1))]) (ykc_289 (e := (0, .iconst (-1), 0)) rfl) rfl rfl ?_
      refine gt_ret (ykc_289 (e := (7, .ireturn, 0)) rfl) rfl ?_
      exact ⟨by unfold ycK; rw [if_neg (by omega)], hP1, g1⟩
    · refine gt_zne_t (ykc_289 (e := (4, .ifCond .ne 5, 33)) rfl) hy ?_
      refine gt_alu (st' := [.int (Int32.ofInt 0)]) (ykc_289 (e := (0, .iconst 0, 0)) rfl) rfl rfl ?_
      refine gt_store (L' := [some (.ref 170), some (.int n), some (.int k), some (.int (Int32.ofInt 0)), none, none, none]) (st' := []) (n := 1) (ykc_289 (e := (3, .istore_n kF3, 0)) rfl) rfl rfl ?_
      exact ymL hE (kn := k.toInt.toNat) (nn := n.toInt.toNat) (by omega) (by omega) (by omega) (by omega) (by omega) (fun ph1 h2 h3 => ⟨by unfold ycK; rw [if_pos (by omega)], h2, h3⟩) (n.toInt.toNat + 1) 0 _ _ _ _ _ (by omega) (by decide) (fun l' a' h _ => absurd h (Nat.not_lt_zero _)) hP1 g1
end YC
