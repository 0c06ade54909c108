/** Tests for what the document says of the vault, the accounts and the output text: at its boundaries. */
final class VaultBoundaries {
    private VaultBoundaries() {
    }

    static void addTo(Sentences document) {
        promises15And17Counters(document);
        promises18To20Sums(document);
        promise21CoinsOfValue(document);
        promises23And24GradesAndKinds(document);
        promises32And36Totals(document);
        promise37MeanWear(document);
        promise38GradeShare(document);
        promise39IsConsistent(document);
        promise41RenderVault(document);
        promise42OutputAt(document);
    }

    /** 40 coins of this value and weight, which weigh at most 360 grams. */
    private static LeafMint fortyOf(int value, int weight) {
        LeafMint mint = Mints.stocked(360, value, weight);
        Mints.strikeMany(mint, 0, 30);
        mint.sharpen(0);
        Mints.strikeMany(mint, 0, 10);
        return mint;
    }

    // ---- promises 15 to 24

    private static void promises15And17Counters(Sentences document) {
        document.test("15", "Returns the stock of leaves", check -> {
            check.equal("none", new LeafMint().leaves(), 0);
            check.equal("1", Mints.stocked(1).leaves(), 1);
            check.equal("the most by adding", Mints.stocked(999).leaves(), 999);
            check.equal("beyond", YearBoundaries.beyond999().leaves(), 1008);
            check.equal("all struck", fortyOf(5, 9).leaves(), 0);
        });
        document.test("17", "Returns the number of coins in the vault", check -> {
            for (int coins : new int[] {0, 1, 39, 40}) {
                check.equal("coins", Mints.withCoins(coins).vaultCoins(), coins);
            }
        });
    }

    private static void promises18To20Sums(Sentences document) {
        document.test("18", "Returns the sum of the values of all coins in the vault, added coin by coin", check -> {
            check.equal("no die", new LeafMint().vaultValue(), 0);
            check.equal("no coin", Mints.withCoins(0).vaultValue(), 0);
            check.equal("one coin", Mints.withCoins(1).vaultValue(), 50);
            check.equal("two values", Mints.withCoins(21).vaultValue(), 1001);
            check.equal("the most", fortyOf(50, 1).vaultValue(), 2000);
            check.equal("the least of 40", fortyOf(1, 1).vaultValue(), 40);
        });
        document.test("19", "Returns the same sum as vaultValue, added die by die", check -> {
            check.equal("no die", new LeafMint().vaultValueByDies(), 0);
            for (int coins : new int[] {0, 1, 20, 21, 39, 40}) {
                check.equal(coins + " coins", Mints.withCoins(coins).vaultValueByDies(),
                        Mints.withCoins(coins).vaultValue());
            }
            LeafMint mint = PaymentBoundaries.vault(50, 1, 0, 20, 1, 1, 5, 1, 0, 2, 1, 2, 1, 1, 0);
            check.equal("dies without coins", mint.vaultValueByDies(), 24);
            check.equal("the most", fortyOf(50, 1).vaultValueByDies(), 2000);
        });
        document.test("20", "Returns the sum of the weights of all coins in the vault", check -> {
            check.equal("no die", new LeafMint().vaultWeight(), 0);
            check.equal("no coin", Mints.withCoins(0).vaultWeight(), 0);
            check.equal("one coin", PaymentBoundaries.vault(5, 9, 1).vaultWeight(), 9);
            check.equal("two weights", PaymentBoundaries.vault(5, 9, 2, 7, 1, 3).vaultWeight(), 21);
            LeafMint full = fortyOf(5, 9);
            check.equal("the most", full.vaultWeight(), 360);
            full.passYears(10);
            check.equal("a lower grade weighs as much", full.vaultWeight(), 360);
            check.equal("the least of 40", fortyOf(5, 1).vaultWeight(), 40);
        });
    }

    private static void promise21CoinsOfValue(Sentences document) {
        document.test("21", "Returns how many coins with a value are in the vault", check -> {
            check.equal("a die without coins", Mints.withCoins(20).coinsOfValue(1), 0);
            check.equal("one", Mints.withCoins(21).coinsOfValue(1), 1);
            check.equal("twenty", Mints.withCoins(21).coinsOfValue(50), 20);
            check.equal("all 40", fortyOf(7, 1).coinsOfValue(7), 40);
        });
        document.test("21", "Throws `NoSuchElementException` if no die has this value", check -> {
            for (int value : new int[] {0, 2, 49, 51, -1, 50 + 256, 50 + 65536, Integer.MIN_VALUE, Integer.MAX_VALUE}) {
                check.refused("value " + value, Thrown.ELEMENT, () -> Mints.withCoins(21),
                        mint -> mint.coinsOfValue(value));
            }
            check.refused("no die", Thrown.ELEMENT, LeafMint::new, mint -> mint.coinsOfValue(1));
            check.refused("0, which no die has", Thrown.ELEMENT, LeafMint::new, mint -> mint.coinsOfValue(0));
        });
    }

    private static void promises23And24GradesAndKinds(Sentences document) {
        document.test("23", "Returns how many coins with a grade are in the vault", check -> {
            int[][] due = {{0, 0, 0}, {1, 0, 0}, {10, 0, 0}, {10, 1, 0}, {10, 10, 0}, {10, 10, 1}, {10, 10, 10}};
            int[] wears = {0, 1, 10, 11, 20, 21, 30};
            for (int i = 0; i < wears.length; i++) {
                for (int grade = 0; grade < 3; grade++) {
                    check.equal("wear " + wears[i] + ", grade " + grade,
                            Mints.worn(wears[i]).coinsOfGrade((char) ('A' + grade)), due[i][grade]);
                }
            }
            LeafMint full = fortyOf(5, 1);
            full.passYears(10);
            check.equal("all 40", full.coinsOfGrade('C'), 40);
        });
        noSuchGrade(document, "23", LeafMint::coinsOfGrade);
        document.test("24", "Returns how many different kinds of coins are in the vault, where coins of one"
                + " kind have the same value, the same year and the same grade", VaultBoundaries::kindsOfCoins);
    }

    private static void kindsOfCoins(Check check) {
        check.equal("no coin", Mints.withCoins(0).kinds(), 0);
        check.equal("one coin", Mints.worn(1).kinds(), 1);
        check.equal("the last of one kind", Mints.worn(10).kinds(), 1);
        check.equal("another grade", Mints.worn(11).kinds(), 2);
        check.equal("all grades", Mints.worn(30).kinds(), 3);
        check.equal("another value", PaymentBoundaries.vault(5, 1, 1, 7, 1, 1).kinds(), 2);
        LeafMint years = Mints.worn(1);
        years.passYears(1);
        years.strike(0, 1);
        check.equal("another year", years.kinds(), 2);
        years.strike(0, 1);
        check.equal("the same year", years.kinds(), 2);
        LeafMint met = Mints.worn(9);
        met.strike(0, 2);
        check.equal("A and B of a year", met.kinds(), 2);
        met.passYears(10);
        check.equal("both are C now", met.kinds(), 1);
        LeafMint most = Mints.withDies(50, 1, 1, 1, 2, 1, 3, 1, 4, 1);
        for (int i = 0; i < 8; i++) {
            for (int die = 0; die < 5; die++) {
                most.strike(die, 1);
            }
            check.equal("each its own kind", most.kinds(), 5 * i + 5);
            most.passYears(1);
        }
        most.recall(3);
        check.equal("without a year", most.kinds(), 35);
    }

    /** For both methods that are given a grade. */
    private static void noSuchGrade(Sentences document, String promise, GradeCall call) {
        document.test(promise, "Throws `IllegalArgumentException` if there is no such grade", check -> {
            for (char grade : new char[] {'@', 'D', 'a', 'c', 0, 1, 'A' + 256, 'A' + 32768, 65535}) {
                check.refused("grade " + (int) grade, Thrown.ARGUMENT, () -> Mints.worn(21),
                        mint -> call.of(mint, grade));
            }
            for (char grade = 'A'; grade <= 'C'; grade++) {
                char taken = grade;
                check.returns("grade " + grade, () -> call.of(Mints.worn(21), taken));
            }
        });
    }

    private interface GradeCall {
        void of(LeafMint mint, char grade);
    }

    // ---- promises 32 to 39

    private static void promises32And36Totals(Sentences document) {
        document.test("32", "Returns how many coins have been struck so far", check -> {
            LeafMint mint = Mints.withDies(5, 1);
            check.equal("at first", mint.struckTotal(), 0);
            mint.strike(0, 1);
            check.equal("one", mint.struckTotal(), 1);
            mint.strike(0, 9);
            check.equal("ten", mint.struckTotal(), 10);
            check.fails("a refused call", Thrown.ARGUMENT, () -> mint.strike(0, 10));
            check.equal("none by a refused call", mint.struckTotal(), 10);
            mint.pay(5);
            mint.recall(0);
            check.equal("paid and recalled ones too", mint.struckTotal(), 10);
            LeafMint full = fortyOf(5, 1);
            full.recall(0);
            full.strike(0, 9);
            check.equal("more than the vault holds", full.struckTotal(), 49);
        });
        document.test("36", "Returns the weight of all leaves that have been added so far", check -> {
            LeafMint mint = new LeafMint();
            check.equal("at first", mint.addedWeight(), 0);
            mint.addLeaves(1);
            check.equal("1", mint.addedWeight(), 1);
            mint.addLeaves(99);
            check.equal("100", mint.addedWeight(), 100);
            check.fails("a refused call", Thrown.ARGUMENT, () -> mint.addLeaves(100));
            check.equal("nothing by a refused call", mint.addedWeight(), 100);
            LeafMint full = Mints.stocked(999, 5, 9);
            check.fails("a full stock", Thrown.STATE, () -> full.addLeaves(1));
            check.equal("nothing to a full stock", full.addedWeight(), 999);
            full.strike(0, 1);
            full.addLeaves(9);
            check.equal("more than the stock holds", full.addedWeight(), 1008);
            full.recall(0);
            check.equal("a recall adds nothing", full.addedWeight(), 1008);
        });
    }

    private static void promise37MeanWear(Sentences document) {
        document.test("37", "Returns the mean wear of the dies: the sum divided by the number, both converted"
                + " to double",
                check -> {
            check.equal("one new die", Mints.worn(0).meanWear(), 0.0);
            check.equal("the greatest", Mints.worn(30).meanWear(), 30.0);
            LeafMint mint = Mints.withDies(5, 1, 7, 1, 9, 1);
            mint.strike(0, 1);
            check.equal("a third, not rounded", mint.meanWear(), 1.0 / 3.0);
            mint.strike(2, 1);
            check.equal("two thirds", mint.meanWear(), 2.0 / 3.0);
            mint.addDie(1, 1);
            check.equal("a half", mint.meanWear(), 0.5);
            mint.addDie(2, 1);
            check.equal("two fifths", mint.meanWear(), 2.0 / 5.0);
        });
        document.test("37", "Throws `ArithmeticException` if there are no dies", check -> {
            check.refused("no dies", Thrown.ARITHMETIC, () -> Mints.stocked(99), mint -> mint.meanWear());
            check.equal("one die", Mints.stocked(0, 1, 1).meanWear(), 0.0);
        });
    }

    private static void promise38GradeShare(Sentences document) {
        document.test("38", "Returns the share of the coins in the vault that have a grade: their number"
                + " divided by the number of coins in the vault, both converted to float", check -> {
            check.equal("one of one", Mints.worn(1).gradeShare('A'), 1f);
            check.equal("none of one", Mints.worn(1).gradeShare('B'), 0f);
            check.equal("A of 21", Mints.worn(21).gradeShare('A'), 10f / 21f);
            check.equal("B of 21", Mints.worn(21).gradeShare('B'), 10f / 21f);
            check.equal("C of 21", Mints.worn(21).gradeShare('C'), 1f / 21f);
            check.equal("a third", Mints.worn(30).gradeShare('C'), 1f / 3f);
            LeafMint full = PaymentBoundaries.vault(1, 1, 10, 2, 1, 10, 3, 1, 10, 4, 1, 10);
            check.equal("all of 40", full.gradeShare('A'), 1f);
        });
        noSuchGrade(document, "38", LeafMint::gradeShare);
        document.test("38", "Throws `ArithmeticException` if the vault is empty", check -> {
            for (char grade = 'A'; grade <= 'C'; grade++) {
                char asked = grade;
                check.refused("no coin", Thrown.ARITHMETIC, () -> Mints.worn(0), mint -> mint.gradeShare(asked));
                check.returns("one coin", () -> Mints.worn(1).gradeShare(asked));
            }
            LeafMint paid = Mints.worn(1);
            paid.pay(5);
            check.fails("empty again", Thrown.ARITHMETIC, () -> paid.gradeShare('A'));
        });
    }

    private static void promise39IsConsistent(Sentences document) {
        document.test("39", "Checks the state: both ways to find the fewest coins agree for the amounts 1 to"
                + " 99, both ways to compute the value of the vault agree, and addedWeight is the stock plus"
                + " the weight of the vault, paidWeight and lostWeight", check -> {
            check.holds("a new mint", new LeafMint().isConsistent());
            check.holds("dies alone", Mints.withCoins(0).isConsistent());
            for (int coins : new int[] {1, 20, 21, 39, 40}) {
                check.holds(coins + " coins", Mints.withCoins(coins).isConsistent());
            }
            check.holds("a stock beyond 999", YearBoundaries.beyond999().isConsistent());
            LeafMint light = PaymentBoundaries.vault(50, 1, 20, 49, 1, 11, 1, 9, 9);
            light.pay(99);
            check.holds("paid", light.isConsistent());
            light.passYears(10);
            check.holds("grades C", light.isConsistent());
            light.recall(0);
            check.holds("coins of 1 gram recalled with the grade C", light.isConsistent());
            light.undo();
            check.holds("undone", light.isConsistent());
        });
    }

    // ---- promises 41 and 42

    private static void promise41RenderVault(Sentences document) {
        String sentence = "Replaces the output text by the contents of the vault: for each die with at least"
                + " one coin in the vault, sorted by value in descending order, the value, \"x\" and the number"
                + " of its coins, with a space between two dies, as in \"25x2 5x11 1x3\"";
        document.test("41", sentence, check -> {
            checkVault(check, new LeafMint(), "");
            checkVault(check, Mints.withCoins(0), "");
            checkVault(check, Mints.withCoins(1), "50x1");
            checkVault(check, Mints.withCoins(20), "50x20");
            checkVault(check, Mints.withCoins(21), "50x20 1x1");
            checkVault(check, PaymentBoundaries.vault(1, 1, 3, 5, 1, 11, 25, 1, 2), "25x2 5x11 1x3");
            checkVault(check, PaymentBoundaries.vault(9, 1, 0, 10, 1, 9, 11, 1, 0, 8, 1, 10, 50, 1, 0), "10x9 8x10");
            checkVault(check, PaymentBoundaries.vault(46, 1, 1, 50, 1, 10, 47, 1, 9, 49, 1, 10, 48, 1, 10),
                    "50x10 49x10 48x10 47x9 46x1");
            LeafMint paid = PaymentBoundaries.vault(5, 1, 1, 7, 1, 1);
            checkVault(check, paid, "7x1 5x1");
            paid.pay(7);
            checkVault(check, paid, "5x1");
            paid.pay(5);
            checkVault(check, paid, "");
        });
        document.test("41", "Returns the length of the output text", check -> {
            check.equal("no coin", Mints.withCoins(0).renderVault(), 0);
            check.equal("one coin of one digit", Mints.worn(1).renderVault(), 3);
            check.equal("ten coins", Mints.worn(10).renderVault(), 4);
            check.equal("two dies", Mints.withCoins(21).renderVault(), 9);
        });
    }

    private static void checkVault(Check check, LeafMint mint, String due) {
        mint.renderVault();
        check.equal("text", Mints.outputOf(mint), due);
    }

    private static void promise42OutputAt(Sentences document) {
        document.test("42", "Returns a character of the output text, which is empty initially", check -> {
            LeafMint mint = Mints.worn(12);
            check.fails("empty", Thrown.INDEX, () -> mint.outputAt(0));
            mint.renderDie(0);
            check.equal("the first", mint.outputAt(0), '0');
            check.equal("the second", mint.outputAt(1), ':');
            check.equal("the last but one", mint.outputAt(6), '1');
            check.equal("the last", mint.outputAt(7), '2');
            mint.renderVault();
            check.equal("the last of a shorter text", mint.outputAt(3), '2');
            check.fails("nothing of the longer one", Thrown.INDEX, () -> mint.outputAt(4));
        });
        document.test("42", "Throws `IndexOutOfBoundsException` if there is no such index", check -> {
            check.range("index in 5x1,", Thrown.INDEX, 0, 2, () -> Mints.worn(1), LeafMint::outputAt);
            check.range("index in 50x20 1x1,", Thrown.INDEX, 0, 8, () -> Mints.withCoins(21), LeafMint::outputAt);
            for (int index : new int[] {-1, 0, 1, Integer.MIN_VALUE, Integer.MAX_VALUE}) {
                check.refusedAsMade("index " + index + " of nothing", Thrown.INDEX, LeafMint::new,
                        mint -> mint.outputAt(index));
            }
        });
    }
}
