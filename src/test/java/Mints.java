import java.util.function.Supplier;

/** Mints for the tests, and what can be seen of them. */
final class Mints {
    private Mints() {
    }

    /** Pairs of value and weight; the mint has 297 grams of leaves. */
    static LeafMint withDies(int... pairs) {
        return stocked(297, pairs);
    }

    static LeafMint stocked(int grams, int... pairs) {
        LeafMint mint = new LeafMint();
        for (int i = 0; i < pairs.length; i += 2) {
            mint.addDie(pairs[i], pairs[i + 1]);
        }
        for (int left = grams; left > 0; left -= 99) {
            mint.addLeaves(Math.min(left, 99));
        }
        return mint;
    }

    /** Coins of 1 gram: the first 20 have the value 50, the others the value 1. */
    static LeafMint withCoins(int count) {
        LeafMint mint = withDies(50, 1, 1, 1);
        strikeMany(mint, 0, Math.min(count, 20));
        strikeMany(mint, 1, Math.max(count - 20, 0));
        return mint;
    }

    /** One die of value 5 and weight 1, with this wear and as many coins. */
    static LeafMint worn(int wear) {
        LeafMint mint = withDies(5, 1);
        strikeMany(mint, 0, wear);
        return mint;
    }

    /** The same mint, with nothing to undo. */
    static LeafMint settled(LeafMint mint) {
        mint.save();
        mint.restore();
        return mint;
    }

    /** The same mint, with something in all that neither undo nor a snapshot covers. */
    static LeafMint busy(LeafMint mint) {
        mint.save();
        mint.renderVault();
        answerOf(() -> run(mint, "yex"));
        answerOf(() -> run(mint, "year;year;pay 0"));
        mint.type('y');
        mint.type('e');
        return mint;
    }

    static void strikeMany(LeafMint mint, int die, int count) {
        for (int i = 0; i < count; i++) {
            mint.strike(die, 1);
        }
    }

    static int run(LeafMint mint, String script) {
        type(mint, script);
        return mint.runScript();
    }

    static void type(LeafMint mint, String script) {
        for (int i = 0; i < script.length(); i++) {
            mint.type(script.charAt(i));
        }
    }

    static String outputOf(LeafMint mint) {
        StringBuilder text = new StringBuilder();
        String sign = outputAt(mint, 0);
        while (sign.length() == 1 && text.length() < 100) {
            text.append(sign);
            sign = outputAt(mint, text.length());
        }
        return text.toString();
    }

    private static String outputAt(LeafMint mint, int index) {
        return answerOf(() -> mint.outputAt(index));
    }

    static int changesToUndo(LeafMint mint) {
        int changes = 0;
        while (changes < 20 && !answerOf(mint::undo).equals(IllegalStateException.class.getName())) {
            changes++;
        }
        return changes;
    }

    static String answerOf(Supplier<?> call) {
        try {
            return String.valueOf(call.get());
        } catch (RuntimeException e) {
            return e.getClass().getName();
        }
    }

    /** All that undo and the snapshot cover, but for years after the first 30. */
    static String allOf(LeafMint mint) {
        StringBuilder text = new StringBuilder();
        for (int die = 0; die < mint.dieCount(); die++) {
            text.append(mint.dieValue(die)).append('/').append(mint.coinWeight(die)).append('/');
            text.append(mint.wear(die)).append('/').append(mint.coinsOfValue(mint.dieValue(die))).append(' ');
        }
        for (int year = 0; year <= Math.min(mint.year(), 30); year++) {
            text.append(mint.coinsOfYear(year)).append('/').append(mint.recallGrams(year)).append(' ');
        }
        text.append(mint.kinds()).append(' ').append(countsOf(mint));
        return text.toString();
    }

    private static String countsOf(LeafMint mint) {
        StringBuilder text = new StringBuilder();
        for (char grade = 'A'; grade <= 'C'; grade++) {
            text.append(mint.coinsOfGrade(grade)).append(' ');
        }
        text.append(mint.dieCount()).append(' ').append(mint.vaultWeight()).append(' ').append(mint.year());
        text.append(' ').append(mint.leaves()).append(' ').append(mint.struckTotal()).append(' ');
        text.append(mint.paidTotal()).append(' ').append(mint.paidWeight()).append(' ');
        text.append(mint.lostWeight()).append(' ').append(mint.addedWeight());
        return text.toString();
    }

    /** All that undo and the snapshot cover, and all that they hold; the mint is used up by this. */
    static String coveredOf(LeafMint mint) {
        StringBuilder text = new StringBuilder(allOf(mint));
        for (int i = 0; i < 10; i++) {
            text.append("; undo ").append(answerOf(mint::undo)).append(' ').append(countsOf(mint));
        }
        text.append("; snapshot ").append(answerOf(mint::restore)).append(' ').append(allOf(mint));
        return text.toString();
    }

    /** All that can be seen of a mint; it is used up by this. */
    static String everythingOf(LeafMint mint) {
        StringBuilder text = new StringBuilder("output ").append(outputOf(mint));
        text.append(scriptsOf(mint)).append("; ").append(coveredOf(mint));
        text.append("; buffer ").append(answerOf(() -> mint.type(';')));
        text.append(' ').append(answerOf(mint::runScript)).append(scriptsOf(mint));
        return text.toString();
    }

    private static String scriptsOf(LeafMint mint) {
        return "; scripts " + answerOf(mint::errorPosition) + ' ' + answerOf(mint::failedCommand);
    }
}
