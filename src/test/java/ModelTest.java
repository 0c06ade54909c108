import java.util.ArrayList;
import java.util.HashSet;
import java.util.List;
import java.util.NoSuchElementException;
import java.util.function.Supplier;
import java.util.regex.Matcher;
import java.util.regex.Pattern;

/**
 * Runs of some 500 calls, drawn by a fixed rule, on the class and on a model that is written in another
 * way: it tries every choice of coins for a payment, and leaves the form of scripts to a pattern.
 */
public final class ModelTest {
    private static final int RUNS = 800;
    /** The document promises 512 calls; one step of a run makes fewer than 60. */
    private static final int CALLS = 512 - 60;

    private static final Check CHECK = new Check();
    private static long seed = 20261119;
    private static int calls;

    public static void main(String[] args) {
        for (int run = 0; run < RUNS; run++) {
            LeafMint mint = new LeafMint();
            Model model = new Model();
            List<Integer> script = new ArrayList<>();
            calls = 0;
            while (calls < CALLS) {
                oneStep(run, mint, model, script);
            }
        }
        CHECK.end("ModelTest");
    }

    /** Not java.util.Random, whose numbers the document of another machine may not promise. */
    private static int draw(int bound) {
        seed = seed * 6364136223846793005L + 1442695040888963407L;
        return (int) Math.floorMod(seed >>> 33, (long) bound);
    }

    private static void same(String what, Supplier<?> got, Supplier<?> want) {
        calls++;
        CHECK.equal(what, Mints.answerOf(got), Mints.answerOf(want));
    }

    private static int near(int low, int high) {
        switch (draw(40)) {
            case 0:
                return low - 1;
            case 1:
                return high + 1;
            case 2:
                return draw(2) == 0 ? Integer.MIN_VALUE : Integer.MAX_VALUE;
            default:
                return low + draw(high - low + 1);
        }
    }

    private static int aDie(Model model) {
        return near(0, Math.max(0, model.now.dies.size() - 1));
    }

    private static int aValue(Model model) {
        if (model.now.dies.isEmpty() || draw(8) == 0) {
            return near(1, 50);
        }
        return model.now.dies.get(draw(model.now.dies.size()))[0];
    }

    private static int aYear(Model model) {
        if (!model.now.coins.isEmpty() && draw(3) != 0) {
            return model.now.coins.get(draw(model.now.coins.size())).year;
        }
        return near(0, model.now.year);
    }

    private static char aGrade() {
        return (char) ('A' + near(0, 2));
    }

    private static void oneStep(int run, LeafMint mint, Model model, List<Integer> script) {
        String at = "run " + run + ", call " + calls + ": ";
        if (!script.isEmpty()) {
            int sign = script.remove(0);
            if (sign < 0) {
                same(at + "runScript", mint::runScript, model::runScript);
                same(at + "errorPosition", mint::errorPosition, model::errorPosition);
                same(at + "failedCommand", mint::failedCommand, model::failedCommand);
            } else {
                same(at + "type", () -> mint.type((char) sign), () -> model.type((char) sign));
            }
            return;
        }
        int kind = draw(100);
        if (kind < 4 || model.now.dies.size() < 2 && kind < 30) {
            int value = draw(3) == 0 ? near(1, 50) : near(1, 12);
            int weight = near(1, 9);
            same(at + "addDie", () -> mint.addDie(value, weight), () -> model.addDie(value, weight));
        } else if (kind < 18) {
            int grams = draw(2) == 0 ? near(1, 99) : near(60, 99);
            same(at + "addLeaves", () -> mint.addLeaves(grams), () -> model.addLeaves(grams));
        } else if (kind < 44) {
            int die = aDie(model);
            int count = near(1, 9);
            same(at + "strike", () -> mint.strike(die, count), () -> model.strike(die, count));
        } else if (kind < 49) {
            int die = aDie(model);
            same(at + "sharpen", () -> mint.sharpen(die), () -> model.sharpen(die));
        } else if (kind < 59) {
            int years = draw(4) == 0 ? near(1, 20) : near(1, 4);
            same(at + "passYears", () -> mint.passYears(years), () -> model.passYears(years));
        } else if (kind < 62) {
            int year = aYear(model);
            same(at + "recall", () -> mint.recall(year), () -> model.recall(year));
        } else if (kind < 74) {
            int amount = near(1, 99);
            same(at + "pay", () -> mint.pay(amount), () -> model.pay(amount));
        } else if (kind < 80) {
            same(at + "undo", mint::undo, model::undo);
        } else if (kind < 82) {
            same(at + "save", mint::save, model::save);
        } else if (kind < 83) {
            same(at + "restore", mint::restore, model::restore);
        } else if (kind < 86) {
            planScript(script, model);
        } else {
            questions(at, mint, model);
        }
    }

    private static void planScript(List<Integer> script, Model model) {
        StringBuilder text = new StringBuilder();
        int commands = 1 + draw(6);
        for (int i = 0; i < commands; i++) {
            text.append(i == 0 ? "" : ";").append(aCommand(model));
        }
        if (draw(4) == 0 && text.length() > 0) {
            text.setCharAt(draw(text.length()), " ;0dspyx19a".charAt(draw(11)));
        }
        if (draw(6) == 0) {
            text.setLength(draw(text.length() + 1));
        }
        if (draw(20) == 0) {
            script.add(draw(2) == 0 ? 31 : 127);
        }
        for (int i = 0; i < text.length(); i++) {
            script.add((int) text.charAt(i));
        }
        script.add(-1);
    }

    private static String aCommand(Model model) {
        int dies = Math.max(1, model.now.dies.size());
        switch (draw(9)) {
            case 0:
                return "die " + draw(60) + " " + draw(10);
            case 1:
                return "sharpen " + draw(dies);
            case 2:
                return "leaf " + draw(100);
            case 3:
                return "leaf 0" + draw(10);
            case 4:
                return "strike " + draw(dies) + " " + draw(6);
            case 5:
                return "year";
            case 6:
                return "year " + draw(12);
            case 7:
                return "recall " + Math.min(99, draw(model.now.year + 1));
            default:
                return "pay " + draw(30);
        }
    }

    private static void questions(String at, LeafMint mint, Model model) {
        int die = aDie(model);
        int value = aValue(model);
        int year = aYear(model);
        char grade = aGrade();
        int amount = near(1, 99);
        int rank = aDie(model);
        State now = model.now;
        switch (draw(5)) {
            case 0:
                same(at + "dieCount", mint::dieCount, now.dies::size);
                same(at + "dieValue", () -> mint.dieValue(die), () -> model.die(die)[0]);
                same(at + "coinWeight", () -> mint.coinWeight(die), () -> model.die(die)[1]);
                same(at + "wear", () -> mint.wear(die), () -> model.die(die)[2]);
                same(at + "nextGrade", () -> mint.nextGrade(die), () -> model.nextGrade(die));
                same(at + "dieByWear", () -> mint.dieByWear(rank), () -> model.dieByWear(rank));
                same(at + "meanWear", mint::meanWear, model::meanWear);
                break;
            case 1:
                same(at + "leaves", mint::leaves, () -> now.leaves);
                same(at + "year", mint::year, () -> now.year);
                same(at + "vaultCoins", mint::vaultCoins, now.coins::size);
                same(at + "vaultValue", mint::vaultValue, now::value);
                same(at + "vaultValueByDies", mint::vaultValueByDies, now::value);
                same(at + "vaultWeight", mint::vaultWeight, () -> now.coins.stream().mapToInt(c -> c.weight).sum());
                same(at + "kinds", mint::kinds, model::kinds);
                same(at + "isConsistent", mint::isConsistent, () -> true);
                break;
            case 2:
                same(at + "coinsOfValue", () -> mint.coinsOfValue(value), () -> model.coinsOfValue(value));
                same(at + "coinsOfYear", () -> mint.coinsOfYear(year), () -> model.coinsOfYear(year));
                same(at + "coinsOfGrade", () -> mint.coinsOfGrade(grade), () -> model.coinsOfGrade(grade));
                same(at + "gradeShare", () -> mint.gradeShare(grade), () -> model.gradeShare(grade));
                same(at + "recallGrams", () -> mint.recallGrams(year), () -> model.recallGrams(year));
                same(at + "struckTotal", mint::struckTotal, () -> now.struck);
                same(at + "paidTotal", mint::paidTotal, () -> now.paid);
                same(at + "paidWeight", mint::paidWeight, () -> now.paidWeight);
                same(at + "lostWeight", mint::lostWeight, () -> now.lost);
                same(at + "addedWeight", mint::addedWeight, () -> now.added);
                break;
            case 3:
                same(at + "canPay", () -> mint.canPay(amount), () -> model.canPay(amount));
                same(at + "fewestCoins", () -> mint.fewestCoins(amount), () -> model.fewestCoins(amount));
                same(at + "fewestCoinsBySets", () -> mint.fewestCoinsBySets(amount), () -> model.fewestCoins(amount));
                same(at + "greedyCoins", () -> mint.greedyCoins(amount), () -> model.greedyCoins(amount));
                same(at + "coinsUsed", () -> mint.coinsUsed(amount, value), () -> model.coinsUsed(amount, value));
                same(at + "payableAmounts", mint::payableAmounts, model::payableAmounts);
                break;
            default:
                same(at + "renderDie", () -> mint.renderDie(die), () -> model.renderDie(die));
                sameOutput(at, mint, model);
                same(at + "renderVault", mint::renderVault, model::renderVault);
                sameOutput(at, mint, model);
                break;
        }
    }

    private static void sameOutput(String at, LeafMint mint, Model model) {
        for (int i = -1; i <= model.output.length(); i++) {
            int index = i;
            same(at + "outputAt " + i, () -> mint.outputAt(index), () -> model.outputAt(index));
        }
    }

    private record Coin(int value, int weight, int year, char grade) {
        Coin lower() {
            return new Coin(value, weight, year, (char) (grade + 1));
        }

        int melted() {
            return Math.max(0, grade == 'A' ? weight : grade == 'B' ? weight - 1 : weight - 2);
        }
    }

    private static final class State {
        final List<int[]> dies = new ArrayList<>();
        final List<Coin> coins = new ArrayList<>();
        int leaves;
        int year;
        int struck;
        int paid;
        int paidWeight;
        int lost;
        int added;

        State copy() {
            State copy = new State();
            for (int[] die : dies) {
                copy.dies.add(die.clone());
            }
            copy.coins.addAll(coins);
            copy.leaves = leaves;
            copy.year = year;
            copy.struck = struck;
            copy.paid = paid;
            copy.paidWeight = paidWeight;
            copy.lost = lost;
            copy.added = added;
            return copy;
        }

        int value() {
            return coins.stream().mapToInt(coin -> coin.value).sum();
        }
    }

    private static final class Model {
        private static final String COMMAND = "(?:die \\d\\d? \\d|sharpen \\d|leaf \\d\\d?|strike \\d \\d"
                + "|year(?: \\d\\d?)?|recall \\d\\d?|pay \\d\\d?)";
        private static final Pattern FORM = Pattern.compile(COMMAND + "(?:;" + COMMAND + ")*");

        State now = new State();
        final List<State> past = new ArrayList<>();
        State saved;
        String buffer = "";
        String output = "";
        int error = -1;
        int failed = -1;

        void change() {
            past.add(now.copy());
            if (past.size() > 8) {
                past.remove(0);
            }
        }

        int[] die(int index) {
            if (index < 0 || index >= now.dies.size()) {
                throw new IndexOutOfBoundsException();
            }
            return now.dies.get(index);
        }

        int[] dieWithValue(int value) {
            for (int[] die : now.dies) {
                if (die[0] == value) {
                    return die;
                }
            }
            return null;
        }

        int addDie(int value, int weight) {
            if (value < 1 || value > 50 || weight < 1 || weight > 9) {
                throw new IllegalArgumentException();
            }
            if (now.dies.size() == 5) {
                throw new IllegalStateException();
            }
            if (dieWithValue(value) != null) {
                throw new UnsupportedOperationException();
            }
            change();
            now.dies.add(new int[] {value, weight, 0});
            return now.dies.size() - 1;
        }

        int sharpen(int index) {
            int[] die = die(index);
            if (die[2] == 0) {
                throw new IllegalStateException();
            }
            change();
            int before = die[2];
            die[2] = 0;
            return before;
        }

        int addLeaves(int grams) {
            if (grams < 1 || grams > 99) {
                throw new IllegalArgumentException();
            }
            if (now.leaves + grams > 999) {
                throw new IllegalStateException();
            }
            change();
            now.added += grams;
            now.leaves += grams;
            return now.leaves;
        }

        int strike(int index, int count) {
            int[] die = die(index);
            if (count < 1 || count > 9) {
                throw new IllegalArgumentException();
            }
            if (now.leaves < count * die[1] || now.coins.size() + count > 40) {
                throw new IllegalStateException();
            }
            if (die[2] + count > 30) {
                throw new UnsupportedOperationException();
            }
            change();
            for (int i = 0; i < count; i++) {
                now.coins.add(new Coin(die[0], die[1], now.year, "AAAAAAAAAABBBBBBBBBBCCCCCCCCCC".charAt(die[2])));
                die[2]++;
                now.leaves -= die[1];
                now.struck++;
            }
            return now.coins.size();
        }

        int passYears(int years) {
            if (years < 1 || years > 20) {
                throw new IllegalArgumentException();
            }
            change();
            int lowered = 0;
            for (int i = 0; i < years; i++) {
                now.year++;
                for (int c = 0; c < now.coins.size(); c++) {
                    Coin coin = now.coins.get(c);
                    int age = now.year - coin.year;
                    if ((age == 5 || age == 10) && coin.grade < 'C') {
                        now.coins.set(c, coin.lower());
                        lowered++;
                    }
                }
            }
            return lowered;
        }

        int recall(int year) {
            if (year < 0 || year > now.year) {
                throw new IllegalArgumentException();
            }
            if (coinsOfYear(year) == 0) {
                throw new NoSuchElementException();
            }
            change();
            int grams = recallGrams(year);
            for (Coin coin : now.coins) {
                now.lost += coin.year == year ? coin.weight - coin.melted() : 0;
            }
            now.coins.removeIf(coin -> coin.year == year);
            now.leaves += grams;
            return grams;
        }

        int pay(int amount) {
            checkAmount(amount);
            int[] used = bestChoice(amount);
            if (used == null) {
                throw new UnsupportedOperationException();
            }
            change();
            int number = 0;
            List<int[]> dies = sortedDies();
            for (int i = 0; i < used.length; i++) {
                int value = dies.get(i)[0];
                List<Coin> candidates = new ArrayList<>(now.coins);
                candidates.removeIf(coin -> coin.value != value);
                candidates.sort((a, b) -> a.grade != b.grade ? b.grade - a.grade : a.year - b.year);
                for (int k = 0; k < used[i]; k++) {
                    now.coins.remove(candidates.get(k));
                    now.paidWeight += candidates.get(k).weight;
                    number++;
                }
            }
            now.paid += amount;
            return number;
        }

        void checkAmount(int amount) {
            if (amount < 1 || amount > 99) {
                throw new IllegalArgumentException();
            }
        }

        List<int[]> sortedDies() {
            List<int[]> dies = new ArrayList<>(now.dies);
            dies.sort((a, b) -> b[0] - a[0]);
            return dies;
        }

        int[] bestChoice(int amount) {
            List<int[]> dies = sortedDies();
            List<int[]> best = new ArrayList<>();
            tryChoices(dies, 0, amount, new int[dies.size()], best);
            return best.isEmpty() ? null : best.get(0);
        }

        /** The choices come with more of the greater values first, so that a later one wins with fewer coins alone. */
        void tryChoices(List<int[]> dies, int index, int rest, int[] chosen, List<int[]> best) {
            if (index == dies.size()) {
                if (rest == 0 && (best.isEmpty() || sum(chosen) < sum(best.get(0)))) {
                    best.clear();
                    best.add(chosen.clone());
                }
                return;
            }
            int value = dies.get(index)[0];
            for (int count = Math.min(coinsOfValue(value), rest / value); count >= 0; count--) {
                chosen[index] = count;
                tryChoices(dies, index + 1, rest - count * value, chosen, best);
            }
            chosen[index] = 0;
        }

        static int sum(int[] numbers) {
            int sum = 0;
            for (int number : numbers) {
                sum += number;
            }
            return sum;
        }

        char nextGrade(int index) {
            int wear = die(index)[2];
            if (wear == 30) {
                throw new IllegalStateException();
            }
            return "ABC".charAt(wear / 10);
        }

        int dieByWear(int rank) {
            List<int[]> dies = new ArrayList<>(now.dies);
            dies.sort((a, b) -> a[2] != b[2] ? b[2] - a[2] : b[0] - a[0]);
            if (rank < 0 || rank >= dies.size()) {
                throw new NoSuchElementException();
            }
            return now.dies.indexOf(dies.get(rank));
        }

        double meanWear() {
            if (now.dies.isEmpty()) {
                throw new ArithmeticException();
            }
            return (double) now.dies.stream().mapToInt(die -> die[2]).sum() / (double) now.dies.size();
        }

        int coinsOfValue(int value) {
            if (dieWithValue(value) == null) {
                throw new NoSuchElementException();
            }
            return (int) now.coins.stream().filter(coin -> coin.value == value).count();
        }

        int coinsOfYear(int year) {
            return (int) now.coins.stream().filter(coin -> coin.year == year).count();
        }

        int coinsOfGrade(char grade) {
            if ("ABC".indexOf(grade) < 0) {
                throw new IllegalArgumentException();
            }
            return (int) now.coins.stream().filter(coin -> coin.grade == grade).count();
        }

        float gradeShare(char grade) {
            int count = coinsOfGrade(grade);
            if (now.coins.isEmpty()) {
                throw new ArithmeticException();
            }
            return (float) count / (float) now.coins.size();
        }

        int recallGrams(int year) {
            return now.coins.stream().filter(coin -> coin.year == year).mapToInt(Coin::melted).sum();
        }

        int kinds() {
            return new HashSet<>(now.coins).size();
        }

        boolean canPay(int amount) {
            checkAmount(amount);
            return bestChoice(amount) != null;
        }

        int fewestCoins(int amount) {
            checkAmount(amount);
            int[] used = bestChoice(amount);
            if (used == null) {
                throw new NoSuchElementException();
            }
            return sum(used);
        }

        int greedyCoins(int amount) {
            checkAmount(amount);
            List<Coin> left = new ArrayList<>(now.coins);
            left.sort((a, b) -> b.value - a.value);
            int rest = amount;
            int number = 0;
            while (rest > 0) {
                int most = rest;
                Coin coin = left.stream().filter(c -> c.value <= most).findFirst().orElseThrow();
                left.remove(coin);
                rest -= coin.value;
                number++;
            }
            return number;
        }

        int coinsUsed(int amount, int value) {
            checkAmount(amount);
            coinsOfValue(value);
            int[] used = bestChoice(amount);
            if (used == null) {
                throw new UnsupportedOperationException();
            }
            return used[sortedDies().indexOf(dieWithValue(value))];
        }

        int payableAmounts() {
            HashSet<Integer> sums = new HashSet<>();
            sums.add(0);
            for (Coin coin : now.coins) {
                for (int sum : new ArrayList<>(sums)) {
                    if (sum + coin.value <= 99) {
                        sums.add(sum + coin.value);
                    }
                }
            }
            return sums.size() - 1;
        }

        int renderDie(int index) {
            int[] die = die(index);
            output = index + ":" + die[0] + "w" + die[1] + "/" + die[2];
            return output.length();
        }

        int renderVault() {
            List<String> parts = new ArrayList<>();
            for (int[] die : sortedDies()) {
                if (coinsOfValue(die[0]) > 0) {
                    parts.add(die[0] + "x" + coinsOfValue(die[0]));
                }
            }
            output = String.join(" ", parts);
            return output.length();
        }

        char outputAt(int index) {
            if (index < 0 || index >= output.length()) {
                throw new IndexOutOfBoundsException();
            }
            return output.charAt(index);
        }

        int type(char character) {
            if (character < 32 || character > 126) {
                throw new IllegalArgumentException();
            }
            if (buffer.length() == 60) {
                throw new IllegalStateException();
            }
            buffer += character;
            return buffer.length();
        }

        int runScript() {
            String script = buffer;
            buffer = "";
            if (!FORM.matcher(script).matches()) {
                error = errorIn(script);
                throw new IllegalArgumentException();
            }
            State before = now.copy();
            List<State> pastBefore = new ArrayList<>(past);
            String[] commands = script.split(";");
            for (int i = 0; i < commands.length; i++) {
                try {
                    runCommand(commands[i].split(" "));
                } catch (RuntimeException e) {
                    now = before;
                    past.clear();
                    past.addAll(pastBefore);
                    failed = i;
                    throw new IllegalStateException();
                }
            }
            State after = now;
            past.clear();
            past.addAll(pastBefore);
            now = before;
            change();
            now = after;
            return commands.length;
        }

        static int errorIn(String script) {
            for (int length = 1; length <= script.length(); length++) {
                Matcher matcher = FORM.matcher(script.substring(0, length));
                if (!matcher.matches() && !matcher.hitEnd()) {
                    return length - 1;
                }
            }
            return script.length();
        }

        void runCommand(String[] words) {
            int first = words.length > 1 ? Integer.parseInt(words[1]) : 1;
            switch (words[0]) {
                case "die":
                    addDie(first, Integer.parseInt(words[2]));
                    break;
                case "sharpen":
                    sharpen(first);
                    break;
                case "leaf":
                    addLeaves(first);
                    break;
                case "strike":
                    strike(first, Integer.parseInt(words[2]));
                    break;
                case "year":
                    passYears(first);
                    break;
                case "recall":
                    recall(first);
                    break;
                default:
                    pay(first);
                    break;
            }
        }

        int errorPosition() {
            if (error < 0) {
                throw new NoSuchElementException();
            }
            return error;
        }

        int failedCommand() {
            if (failed < 0) {
                throw new NoSuchElementException();
            }
            return failed;
        }

        int undo() {
            if (past.isEmpty()) {
                throw new IllegalStateException();
            }
            now = past.remove(past.size() - 1);
            return past.size();
        }

        int save() {
            saved = now.copy();
            return now.coins.size();
        }

        int restore() {
            if (saved == null) {
                throw new IllegalStateException();
            }
            now = saved.copy();
            past.clear();
            return now.coins.size();
        }
    }
}
