import java.util.Set;

/** Tests for what the document says of the mint as a whole, before its terms. */
final class OverviewBoundaries {
    private static final int CALLS = 512;
    private static final Set<Class<?>> NAMED = Set.of(Thrown.INDEX, Thrown.ARGUMENT, Thrown.STATE,
            Thrown.UNSUPPORTED, Thrown.ELEMENT, Thrown.ARITHMETIC);

    private OverviewBoundaries() {
    }

    static void addTo(Sentences document) {
        whatItIs(document);
        terms(document);
    }

    private static void whatItIs(Sentences document) {
        String section = "What it is";
        document.test(section, "A mint that strikes coins from copper leaves", check -> {
            check.refused("a gram too few", Thrown.STATE, () -> Mints.stocked(8, 5, 9), mint -> mint.strike(0, 1));
            LeafMint mint = Mints.stocked(9, 5, 9);
            check.equal("just enough", mint.strike(0, 1), 1);
            check.equal("the leaves are used up", mint.leaves(), 0);
            check.equal("the copper is in the coin", mint.vaultWeight(), 9);
        });
        document.test(section, "An object is used for at most 512 calls after it has been made", check -> {
            LeafMint mint = new LeafMint();
            for (int round = 1; round <= CALLS / 8; round++) {
                check.equal("a sign", mint.type('y'), 1);
                check.equal("a sign", mint.type('e'), 2);
                check.equal("a sign", mint.type('a'), 3);
                check.equal("a sign", mint.type('r'), 4);
                check.equal("a script", mint.runScript(), 1);
                check.equal("a year", mint.passYears(2), 0);
                check.equal("an undone year", mint.undo(), Math.min(round, 7));
                check.equal("call " + 8 * round, mint.year(), round);
            }
        });
        document.test(section, "what later calls answer is free", check -> {
            LeafMint mint = Mints.withDies(5, 1);
            for (int call = 0; call < 40 * CALLS; call++) {
                check.holds("an answer, or an exception of the document", endsAsNamed(mint, call));
            }
        });
    }

    private static boolean endsAsNamed(LeafMint mint, int call) {
        try {
            oneOfSixCalls(mint, call);
            return true;
        } catch (RuntimeException e) {
            return NAMED.contains(e.getClass());
        }
    }

    private static void oneOfSixCalls(LeafMint mint, int call) {
        switch (call % 6) {
            case 0:
                mint.addLeaves(99);
                break;
            case 1:
                mint.strike(0, 2);
                break;
            case 2:
                mint.passYears(20);
                break;
            case 3:
                mint.pay(10);
                break;
            case 4:
                mint.sharpen(0);
                break;
            default:
                mint.type(';');
                break;
        }
    }

    private static void terms(Sentences document) {
        String section = "Terms";
        document.test(section, "Dies wear out and produce coins of lower grades, coins lose grades with age, years can"
                + " be recalled, and amounts are paid from the vault with as few coins as possible", check -> {
            LeafMint mint = Mints.withDies(5, 1, 10, 1);
            Mints.strikeMany(mint, 0, 9);
            check.equal("a little worn", mint.nextGrade(0), 'A');
            Mints.strikeMany(mint, 0, 1);
            check.equal("a die wears", mint.nextGrade(0), 'B');
            check.equal("not yet of an age", mint.passYears(4), 0);
            check.equal("coins lose grades", mint.passYears(1), 10);
            mint.strike(1, 1);
            check.equal("as few coins as possible", mint.pay(10), 1);
            check.equal("a year is recalled", mint.recall(0), 0);
            check.equal("all its coins are melted", mint.vaultCoins(), 0);
        });
        document.test(section, "The class finds the fewest coins in two ways, keeps accounts of the copper, and offers"
                + " rankings, a small command language, undo and a snapshot", check -> {
            LeafMint mint = Mints.withDies(25, 7, 10, 3);
            check.equal("a small command language", Mints.run(mint, "strike 0 1;strike 1 4;year 5"), 3);
            check.equal("one way", mint.fewestCoins(30), 3);
            check.equal("the other way", mint.fewestCoinsBySets(30), 3);
            check.equal("rankings", mint.dieByWear(0), 1);
            check.equal("a snapshot", mint.save(), 5);
            check.equal("a payment", mint.pay(30), 3);
            check.equal("a recall", mint.recall(0), 6 + 2);
            check.equal("accounts of the copper: paid", mint.paidWeight(), 9);
            check.equal("accounts of the copper: lost", mint.lostWeight(), 2);
            check.equal("accounts of the copper: the rest", mint.leaves(), mint.addedWeight() - 9 - 2);
            mint.undo();
            check.equal("undo", mint.vaultCoins(), 2);
            check.equal("the snapshot again", mint.restore(), 5);
            check.equal("as it was taken", mint.leaves(), mint.addedWeight() - 7 - 12);
        });
    }
}
