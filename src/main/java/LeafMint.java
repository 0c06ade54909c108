import java.util.Arrays;
import java.util.NoSuchElementException;

/** A mint that strikes coins from copper leaves. */
public final class LeafMint {
    private static final int MAX_DIES = 5;
    private static final int MAX_VALUE = 50;
    private static final int MAX_WEIGHT = 9;
    private static final int MAX_WEAR = 30;
    private static final int WEAR_PER_GRADE = 10;
    private static final int MAX_COINS = 40;
    private static final int MAX_STRIKE = 9;
    private static final int MAX_STOCK = 999;
    private static final int MAX_LEAVES = 99;
    private static final int MAX_YEARS = 20;
    private static final int FIRST_AGING = 5;
    private static final int SECOND_AGING = 10;
    private static final int MAX_AMOUNT = 99;
    private static final int MAX_UNDO = 8;
    private static final int MAX_SCRIPT = 60;
    private static final char FIRST_SIGN = 32;
    private static final char LAST_SIGN = 126;

    private static final int GRADE_A = 0;
    private static final int GRADE_B = 1;
    private static final int GRADE_C = 2;

    /** Stands for an amount that cannot be paid; more than any number of coins. */
    private static final int UNPAYABLE = 1000;

    private static final int NOT_YET = -1;

    // A fault says which exception a change would throw, so that a script can
    // learn that a command fails without an exception being thrown and caught.
    private static final int NO_FAULT = 0;
    private static final int BAD_INDEX = 1;
    private static final int BAD_ARGUMENT = 2;
    private static final int BAD_STATE = 3;
    private static final int UNSUPPORTED = 4;
    private static final int NO_ELEMENT = 5;

    private static final int DIE = 0;
    private static final int SHARPEN = 1;
    private static final int LEAF = 2;
    private static final int STRIKE = 3;
    private static final int YEAR = 4;
    private static final int RECALL = 5;
    private static final int PAY = 6;
    private static final int VERBS = 7;

    private final State state;
    private final State trial;
    private final State saved;
    private final State[] past;
    private final Payments payments;
    private final Script script;
    private final StringBuilder output;
    private boolean hasSaved;
    private int pastChanges;
    private int lastErrorPosition;
    private int lastFailedCommand;

    public LeafMint() {
        state = new State();
        trial = new State();
        saved = new State();
        past = new State[MAX_UNDO];
        for (int i = 0; i < MAX_UNDO; i++) {
            past[i] = new State();
        }
        payments = new Payments();
        script = new Script();
        output = new StringBuilder();
        lastErrorPosition = NOT_YET;
        lastFailedCommand = NOT_YET;
    }

    public int addDie(int value, int weight)
            throws IllegalArgumentException, IllegalStateException, UnsupportedOperationException {
        return change(DIE, value, weight);
    }

    public int sharpen(int die) throws IndexOutOfBoundsException, IllegalStateException {
        return change(SHARPEN, die, 0);
    }

    public int addLeaves(int grams) throws IllegalArgumentException, IllegalStateException {
        return change(LEAF, grams, 0);
    }

    public int strike(int die, int count)
            throws IndexOutOfBoundsException, IllegalArgumentException, IllegalStateException,
                    UnsupportedOperationException {
        return change(STRIKE, die, count);
    }

    public int passYears(int years) throws IllegalArgumentException {
        return change(YEAR, years, 0);
    }

    public int recall(int year) throws IllegalArgumentException, NoSuchElementException {
        return change(RECALL, year, 0);
    }

    public int pay(int amount) throws IllegalArgumentException, UnsupportedOperationException {
        return change(PAY, amount, 0);
    }

    public int dieCount() {
        return state.dies;
    }

    public int dieValue(int die) throws IndexOutOfBoundsException {
        requireDie(die);
        return state.dieValue[die];
    }

    public int coinWeight(int die) throws IndexOutOfBoundsException {
        requireDie(die);
        return state.dieWeight[die];
    }

    public int wear(int die) throws IndexOutOfBoundsException {
        requireDie(die);
        return state.dieWear[die];
    }

    public char nextGrade(int die) throws IndexOutOfBoundsException, IllegalStateException {
        requireDie(die);
        if (state.dieWear[die] >= MAX_WEAR) {
            throw new IllegalStateException("the die is worn out");
        }
        return (char) ('A' + gradeOfWear(state.dieWear[die]));
    }

    public int dieByWear(int rank) throws NoSuchElementException {
        for (int die = 0; die < state.dies; die++) {
            if (state.diesWornMoreThan(die) == rank) {
                return die;
            }
        }
        throw new NoSuchElementException("no such rank");
    }

    public int leaves() {
        return state.leaves;
    }

    public int year() {
        return state.year;
    }

    public int vaultCoins() {
        return state.coins;
    }

    public int vaultValue() {
        int sum = 0;
        for (int coin = 0; coin < state.coins; coin++) {
            sum += state.dieValue[state.coinDie[coin]];
        }
        return sum;
    }

    public int vaultValueByDies() {
        int sum = 0;
        for (int die = 0; die < state.dies; die++) {
            sum += state.dieValue[die] * state.coinsFrom(die);
        }
        return sum;
    }

    public int vaultWeight() {
        return state.weightOfCoins();
    }

    public int coinsOfValue(int value) throws NoSuchElementException {
        return state.coinsFrom(requireValue(value));
    }

    public int coinsOfYear(int year) {
        return state.coinsStruckIn(year);
    }

    public int coinsOfGrade(char grade) throws IllegalArgumentException {
        return state.coinsGraded(requireGrade(grade));
    }

    public int kinds() {
        int count = 0;
        for (int coin = 0; coin < state.coins; coin++) {
            if (state.isFirstOfItsKind(coin)) {
                count++;
            }
        }
        return count;
    }

    public boolean canPay(int amount) throws IllegalArgumentException {
        requireAmount(amount);
        payments.tabulate(state);
        return payments.tableAnswer(amount) != UNPAYABLE;
    }

    public int fewestCoins(int amount) throws IllegalArgumentException, NoSuchElementException {
        requireAmount(amount);
        payments.tabulate(state);
        return requirePayable(payments.tableAnswer(amount));
    }

    public int fewestCoinsBySets(int amount) throws IllegalArgumentException, NoSuchElementException {
        requireAmount(amount);
        payments.collectSets(state);
        return requirePayable(payments.setsAnswer(amount));
    }

    public int greedyCoins(int amount) throws IllegalArgumentException, NoSuchElementException {
        requireAmount(amount);
        return requirePayable(payments.payGreedily(state, amount));
    }

    public int coinsUsed(int amount, int value)
            throws IllegalArgumentException, NoSuchElementException, UnsupportedOperationException {
        requireAmount(amount);
        int die = requireValue(value);
        if (!payments.plan(state, amount)) {
            throw new UnsupportedOperationException("the amount cannot be paid");
        }
        return payments.used[die];
    }

    public int payableAmounts() {
        payments.tabulate(state);
        int count = 0;
        for (int amount = 1; amount <= MAX_AMOUNT; amount++) {
            if (payments.tableAnswer(amount) != UNPAYABLE) {
                count++;
            }
        }
        return count;
    }

    public int recallGrams(int year) {
        return state.gramsFromMelting(year);
    }

    public int struckTotal() {
        return state.struckTotal;
    }

    public int paidTotal() {
        return state.paidTotal;
    }

    public int paidWeight() {
        return state.paidWeight;
    }

    public int lostWeight() {
        return state.lostWeight;
    }

    public int addedWeight() {
        return state.addedWeight;
    }

    public double meanWear() throws ArithmeticException {
        if (state.dies == 0) {
            throw new ArithmeticException("there are no dies");
        }
        int sum = 0;
        for (int die = 0; die < state.dies; die++) {
            sum += state.dieWear[die];
        }
        return (double) sum / (double) state.dies;
    }

    public float gradeShare(char grade) throws IllegalArgumentException, ArithmeticException {
        int wanted = requireGrade(grade);
        if (state.coins == 0) {
            throw new ArithmeticException("the vault is empty");
        }
        return (float) state.coinsGraded(wanted) / (float) state.coins;
    }

    public boolean isConsistent() {
        int weight = state.leaves + state.weightOfCoins() + state.paidWeight + state.lostWeight;
        return bothWaysAgree() && vaultValue() == vaultValueByDies() && state.addedWeight == weight;
    }

    public int renderDie(int die) throws IndexOutOfBoundsException {
        requireDie(die);
        output.setLength(0);
        output.append(die).append(':').append(state.dieValue[die]);
        output.append('w').append(state.dieWeight[die]);
        output.append('/').append(state.dieWear[die]);
        return output.length();
    }

    public int renderVault() {
        output.setLength(0);
        for (int rank = state.dies - 1; rank >= 0; rank--) {
            int die = state.diesByValue[rank];
            int count = state.coinsFrom(die);
            if (count > 0) {
                if (output.length() > 0) {
                    output.append(' ');
                }
                output.append(state.dieValue[die]).append('x').append(count);
            }
        }
        return output.length();
    }

    public char outputAt(int index) throws IndexOutOfBoundsException {
        if (index < 0 || index >= output.length()) {
            throw new IndexOutOfBoundsException("no such index in the output text");
        }
        return output.charAt(index);
    }

    public int type(char character) throws IllegalArgumentException, IllegalStateException {
        if (character < FIRST_SIGN || character > LAST_SIGN) {
            throw new IllegalArgumentException("the character cannot be typed");
        }
        if (script.length >= MAX_SCRIPT) {
            throw new IllegalStateException("the script buffer is full");
        }
        script.append(character);
        return script.length;
    }

    public int runScript() throws IllegalArgumentException, IllegalStateException {
        boolean wellFormed = script.parse();
        script.length = 0;
        if (!wellFormed) {
            lastErrorPosition = script.position;
            throw new IllegalArgumentException("the script does not have the required form");
        }
        trial.copyFrom(state);
        for (int i = 0; i < script.commands; i++) {
            if (faultOf(trial, script.verb[i], script.first[i], script.second[i]) != NO_FAULT) {
                lastFailedCommand = i;
                throw new IllegalStateException("a command of the script fails");
            }
            perform(trial, script.verb[i], script.first[i], script.second[i]);
        }
        remember();
        state.copyFrom(trial);
        return script.commands;
    }

    public int errorPosition() throws NoSuchElementException {
        if (lastErrorPosition == NOT_YET) {
            throw new NoSuchElementException("no script without the required form");
        }
        return lastErrorPosition;
    }

    public int failedCommand() throws NoSuchElementException {
        if (lastFailedCommand == NOT_YET) {
            throw new NoSuchElementException("no script with a failed command");
        }
        return lastFailedCommand;
    }

    public int undo() throws IllegalStateException {
        if (pastChanges == 0) {
            throw new IllegalStateException("there is nothing to undo");
        }
        pastChanges--;
        state.copyFrom(past[pastChanges]);
        return pastChanges;
    }

    public int save() {
        saved.copyFrom(state);
        hasSaved = true;
        return state.coins;
    }

    public int restore() throws IllegalStateException {
        if (!hasSaved) {
            throw new IllegalStateException("there is no snapshot");
        }
        state.copyFrom(saved);
        pastChanges = 0;
        return state.coins;
    }

    private int change(int verb, int first, int second) {
        throwFor(faultOf(state, verb, first, second));
        remember();
        return perform(state, verb, first, second);
    }

    private int faultOf(State mint, int verb, int first, int second) {
        switch (verb) {
            case DIE:
                return mint.faultOfNewDie(first, second);
            case SHARPEN:
                return mint.faultOfSharpening(first);
            case LEAF:
                return mint.faultOfLeaves(first);
            case STRIKE:
                return mint.faultOfStriking(first, second);
            case YEAR:
                return first < 1 || first > MAX_YEARS ? BAD_ARGUMENT : NO_FAULT;
            case RECALL:
                return mint.faultOfMelting(first);
            default:
                return faultOfPayment(mint, first);
        }
    }

    private int faultOfPayment(State mint, int amount) {
        if (!isAmount(amount)) {
            return BAD_ARGUMENT;
        }
        return payments.plan(mint, amount) ? NO_FAULT : UNSUPPORTED;
    }

    /** Only for changes without a fault: the fault's check has looked at every index that is used here. */
    private int perform(State mint, int verb, int first, int second) {
        switch (verb) {
            case DIE:
                return mint.putDie(first, second);
            case SHARPEN:
                return mint.grind(first);
            case LEAF:
                return mint.putLeaves(first);
            case STRIKE:
                return mint.makeCoins(first, second);
            case YEAR:
                return mint.age(first);
            case RECALL:
                return mint.melt(first);
            default:
                payments.plan(mint, first);
                return mint.payOut(first, payments.used);
        }
    }

    private static void throwFor(int fault) {
        switch (fault) {
            case BAD_INDEX:
                throw new IndexOutOfBoundsException("no such die");
            case BAD_ARGUMENT:
                throw new IllegalArgumentException("an argument is out of its range");
            case BAD_STATE:
                throw new IllegalStateException("the state of the mint does not allow this");
            case UNSUPPORTED:
                throw new UnsupportedOperationException("the mint cannot do this");
            case NO_ELEMENT:
                throw new NoSuchElementException("no coin of this year");
            default:
                break;
        }
    }

    private void remember() {
        if (pastChanges == MAX_UNDO) {
            dropOldestChange();
        }
        past[pastChanges].copyFrom(state);
        pastChanges++;
    }

    private void dropOldestChange() {
        State oldest = past[0];
        for (int i = 1; i < MAX_UNDO; i++) {
            past[i - 1] = past[i];
        }
        // The dropped row is kept, as the place for the next change.
        past[MAX_UNDO - 1] = oldest;
        pastChanges = MAX_UNDO - 1;
    }

    private boolean bothWaysAgree() {
        payments.tabulate(state);
        payments.collectSets(state);
        for (int amount = 1; amount <= MAX_AMOUNT; amount++) {
            if (payments.tableAnswer(amount) != payments.setsAnswer(amount)) {
                return false;
            }
        }
        return true;
    }

    private void requireDie(int die) {
        if (!state.hasDie(die)) {
            throw new IndexOutOfBoundsException("no such die");
        }
    }

    private int requireValue(int value) {
        int die = state.dieWithValue(value);
        if (die == State.NO_DIE) {
            throw new NoSuchElementException("no die has this value");
        }
        return die;
    }

    private static int requireGrade(char grade) {
        if (grade < 'A' || grade > 'C') {
            throw new IllegalArgumentException("no such grade");
        }
        return grade - 'A';
    }

    private static void requireAmount(int amount) {
        if (!isAmount(amount)) {
            throw new IllegalArgumentException("the amount is out of its range");
        }
    }

    private static int requirePayable(int coins) {
        if (coins == UNPAYABLE) {
            throw new NoSuchElementException("the amount cannot be paid");
        }
        return coins;
    }

    private static boolean isAmount(int amount) {
        return amount >= 1 && amount <= MAX_AMOUNT;
    }

    private static int gradeOfWear(int wear) {
        if (wear < WEAR_PER_GRADE) {
            return GRADE_A;
        }
        return wear < 2 * WEAR_PER_GRADE ? GRADE_B : GRADE_C;
    }

    /** All that undo and the snapshot cover. */
    private static final class State {
        private static final int NO_DIE = -1;
        private static final int NO_COIN = -1;

        private int dies;
        private final int[] dieValue = new int[MAX_DIES];
        private final int[] dieWeight = new int[MAX_DIES];
        private final int[] dieWear = new int[MAX_DIES];
        /** The indices of the dies in ascending order of their values. */
        private final int[] diesByValue = new int[MAX_DIES];
        private int coins;
        private final int[] coinDie = new int[MAX_COINS];
        private final int[] coinYear = new int[MAX_COINS];
        private final int[] coinGrade = new int[MAX_COINS];
        private int leaves;
        private int year;
        private int struckTotal;
        private int paidTotal;
        private int paidWeight;
        private int lostWeight;
        private int addedWeight;

        private void copyFrom(State other) {
            dies = other.dies;
            System.arraycopy(other.dieValue, 0, dieValue, 0, MAX_DIES);
            System.arraycopy(other.dieWeight, 0, dieWeight, 0, MAX_DIES);
            System.arraycopy(other.dieWear, 0, dieWear, 0, MAX_DIES);
            System.arraycopy(other.diesByValue, 0, diesByValue, 0, MAX_DIES);
            coins = other.coins;
            System.arraycopy(other.coinDie, 0, coinDie, 0, MAX_COINS);
            System.arraycopy(other.coinYear, 0, coinYear, 0, MAX_COINS);
            System.arraycopy(other.coinGrade, 0, coinGrade, 0, MAX_COINS);
            leaves = other.leaves;
            year = other.year;
            struckTotal = other.struckTotal;
            paidTotal = other.paidTotal;
            paidWeight = other.paidWeight;
            lostWeight = other.lostWeight;
            addedWeight = other.addedWeight;
        }

        private boolean hasDie(int die) {
            return die >= 0 && die < dies;
        }

        private int dieWithValue(int value) {
            for (int die = 0; die < dies; die++) {
                if (dieValue[die] == value) {
                    return die;
                }
            }
            return NO_DIE;
        }

        private int diesWornMoreThan(int die) {
            int count = 0;
            for (int other = 0; other < dies; other++) {
                boolean sameWear = dieWear[other] == dieWear[die];
                if (dieWear[other] > dieWear[die] || sameWear && dieValue[other] > dieValue[die]) {
                    count++;
                }
            }
            return count;
        }

        private int coinsFrom(int die) {
            int count = 0;
            for (int coin = 0; coin < coins; coin++) {
                if (coinDie[coin] == die) {
                    count++;
                }
            }
            return count;
        }

        private int coinsStruckIn(int wanted) {
            int count = 0;
            for (int coin = 0; coin < coins; coin++) {
                if (coinYear[coin] == wanted) {
                    count++;
                }
            }
            return count;
        }

        private int coinsGraded(int grade) {
            int count = 0;
            for (int coin = 0; coin < coins; coin++) {
                if (coinGrade[coin] == grade) {
                    count++;
                }
            }
            return count;
        }

        private boolean isFirstOfItsKind(int coin) {
            for (int earlier = 0; earlier < coin; earlier++) {
                if (coinDie[earlier] == coinDie[coin]
                        && coinYear[earlier] == coinYear[coin]
                        && coinGrade[earlier] == coinGrade[coin]) {
                    return false;
                }
            }
            return true;
        }

        private int weightOfCoins() {
            int sum = 0;
            for (int coin = 0; coin < coins; coin++) {
                sum += dieWeight[coinDie[coin]];
            }
            return sum;
        }

        private int gramsFromMelting(int melted) {
            int sum = 0;
            for (int coin = 0; coin < coins; coin++) {
                if (coinYear[coin] == melted) {
                    // The grades count 0, 1, 2, which is also the loss in grams.
                    sum += Math.max(0, dieWeight[coinDie[coin]] - coinGrade[coin]);
                }
            }
            return sum;
        }

        private int faultOfNewDie(int value, int weight) {
            if (value < 1 || value > MAX_VALUE || weight < 1 || weight > MAX_WEIGHT) {
                return BAD_ARGUMENT;
            }
            if (dies >= MAX_DIES) {
                return BAD_STATE;
            }
            return dieWithValue(value) == NO_DIE ? NO_FAULT : UNSUPPORTED;
        }

        private int putDie(int value, int weight) {
            int added = dies;
            dieValue[added] = value;
            dieWeight[added] = weight;
            dieWear[added] = 0;
            int rank = added;
            while (rank > 0 && dieValue[diesByValue[rank - 1]] > value) {
                diesByValue[rank] = diesByValue[rank - 1];
                rank--;
            }
            diesByValue[rank] = added;
            dies++;
            return added;
        }

        private int faultOfSharpening(int die) {
            if (!hasDie(die)) {
                return BAD_INDEX;
            }
            return dieWear[die] == 0 ? BAD_STATE : NO_FAULT;
        }

        private int grind(int die) {
            int before = dieWear[die];
            dieWear[die] = 0;
            return before;
        }

        private int faultOfLeaves(int grams) {
            if (grams < 1 || grams > MAX_LEAVES) {
                return BAD_ARGUMENT;
            }
            return leaves + grams > MAX_STOCK ? BAD_STATE : NO_FAULT;
        }

        private int putLeaves(int grams) {
            leaves += grams;
            addedWeight += grams;
            return leaves;
        }

        private int faultOfStriking(int die, int count) {
            if (!hasDie(die)) {
                return BAD_INDEX;
            }
            if (count < 1 || count > MAX_STRIKE) {
                return BAD_ARGUMENT;
            }
            if (count * dieWeight[die] > leaves || coins + count > MAX_COINS) {
                return BAD_STATE;
            }
            return dieWear[die] + count > MAX_WEAR ? UNSUPPORTED : NO_FAULT;
        }

        private int makeCoins(int die, int count) {
            for (int i = 0; i < count; i++) {
                coinDie[coins] = die;
                coinYear[coins] = year;
                coinGrade[coins] = gradeOfWear(dieWear[die]);
                coins++;
                dieWear[die]++;
            }
            leaves -= count * dieWeight[die];
            struckTotal += count;
            return coins;
        }

        private int age(int years) {
            int lowered = 0;
            for (int i = 0; i < years; i++) {
                year++;
                lowered += lowerAgedCoins();
            }
            return lowered;
        }

        private int lowerAgedCoins() {
            int lowered = 0;
            for (int coin = 0; coin < coins; coin++) {
                int age = year - coinYear[coin];
                if ((age == FIRST_AGING || age == SECOND_AGING) && coinGrade[coin] != GRADE_C) {
                    coinGrade[coin]++;
                    lowered++;
                }
            }
            return lowered;
        }

        private int faultOfMelting(int melted) {
            if (melted < 0 || melted > year) {
                return BAD_ARGUMENT;
            }
            return coinsStruckIn(melted) == 0 ? NO_ELEMENT : NO_FAULT;
        }

        private int melt(int melted) {
            int returned = gramsFromMelting(melted);
            int weightBefore = weightOfCoins();
            removeCoinsStruckIn(melted);
            leaves += returned;
            lostWeight += weightBefore - weightOfCoins() - returned;
            return returned;
        }

        private void removeCoinsStruckIn(int melted) {
            // From the last coin down, as a removed coin's place is taken by the last one.
            for (int coin = coins - 1; coin >= 0; coin--) {
                if (coinYear[coin] == melted) {
                    removeCoin(coin);
                }
            }
        }

        private int payOut(int amount, int[] used) {
            int before = coins;
            for (int die = 0; die < dies; die++) {
                for (int i = 0; i < used[die]; i++) {
                    spendCoin(die);
                }
            }
            paidTotal += amount;
            return before - coins;
        }

        private void spendCoin(int die) {
            int spent = NO_COIN;
            for (int coin = 0; coin < coins; coin++) {
                if (coinDie[coin] == die && (spent == NO_COIN || isSpentBefore(coin, spent))) {
                    spent = coin;
                }
            }
            if (spent != NO_COIN) {
                paidWeight += dieWeight[die];
                removeCoin(spent);
            }
        }

        private boolean isSpentBefore(int coin, int other) {
            if (coinGrade[coin] != coinGrade[other]) {
                return coinGrade[coin] > coinGrade[other];
            }
            return coinYear[coin] < coinYear[other];
        }

        private void removeCoin(int coin) {
            coins--;
            coinDie[coin] = coinDie[coins];
            coinYear[coin] = coinYear[coins];
            coinGrade[coin] = coinGrade[coins];
        }
    }

    /** Works out payments in rows that are made once and used again by every call. */
    private static final class Payments {
        /** How many amounts, from 0 on, the lower word of a set holds. */
        private static final int WORD = 64;

        /** The number of coins of each die that the latest plan uses. */
        private final int[] used = new int[MAX_DIES];
        /** Row n has the fewest coins for each amount with the n smallest values alone. */
        private final int[][] table = new int[MAX_DIES + 1][MAX_AMOUNT + 1];
        /** Sets n in these two have one bit for each amount that n coins can pay. */
        private final long[] lowSets = new long[MAX_COINS + 1];
        private final long[] highSets = new long[MAX_COINS + 1];
        private int values;
        private int coins;

        private void tabulate(State mint) {
            values = mint.dies;
            Arrays.fill(table[0], UNPAYABLE);
            table[0][0] = 0;
            for (int rank = 0; rank < values; rank++) {
                int die = mint.diesByValue[rank];
                addValue(table[rank], table[rank + 1], mint.dieValue[die], mint.coinsFrom(die));
            }
        }

        private static void addValue(int[] without, int[] with, int value, int count) {
            for (int amount = 0; amount <= MAX_AMOUNT; amount++) {
                int fewest = UNPAYABLE;
                for (int taken = 0; taken <= count && taken * value <= amount; taken++) {
                    int number = without[amount - taken * value] + taken;
                    if (number < fewest) {
                        fewest = number;
                    }
                }
                with[amount] = fewest;
            }
        }

        private int tableAnswer(int amount) {
            return table[values][amount];
        }

        private void collectSets(State mint) {
            coins = mint.coins;
            Arrays.fill(lowSets, 0L);
            Arrays.fill(highSets, 0L);
            lowSets[0] = 1L;
            for (int coin = 0; coin < coins; coin++) {
                addCoin(coin, mint.dieValue[mint.coinDie[coin]]);
            }
        }

        private void addCoin(int coinsBefore, int value) {
            // From the greatest number down, so that the coin is used at most once.
            for (int number = coinsBefore; number >= 0; number--) {
                long carried = lowSets[number] >>> (WORD - value);
                lowSets[number + 1] |= lowSets[number] << value;
                highSets[number + 1] |= highSets[number] << value | carried;
            }
        }

        private int setsAnswer(int amount) {
            for (int number = 0; number <= coins; number++) {
                if (isInSet(number, amount)) {
                    return number;
                }
            }
            return UNPAYABLE;
        }

        private boolean isInSet(int number, int amount) {
            if (amount < WORD) {
                return (lowSets[number] >>> amount & 1L) == 1L;
            }
            return (highSets[number] >>> (amount - WORD) & 1L) == 1L;
        }

        private int payGreedily(State mint, int amount) {
            int number = 0;
            int rest = amount;
            for (int rank = mint.dies - 1; rank >= 0; rank--) {
                int die = mint.diesByValue[rank];
                int value = mint.dieValue[die];
                int left = mint.coinsFrom(die);
                while (left > 0 && value <= rest) {
                    left--;
                    rest -= value;
                    number++;
                }
            }
            return rest == 0 ? number : UNPAYABLE;
        }

        /** Answers whether the amount can be paid, and if so, leaves the coins in used. */
        private boolean plan(State mint, int amount) {
            tabulate(mint);
            if (tableAnswer(amount) == UNPAYABLE) {
                return false;
            }
            int rest = amount;
            for (int rank = values - 1; rank >= 0; rank--) {
                int die = mint.diesByValue[rank];
                int value = mint.dieValue[die];
                used[die] = mostOfValue(rank, value, mint.coinsFrom(die), rest);
                rest -= used[die] * value;
            }
            return true;
        }

        private int mostOfValue(int rank, int value, int count, int rest) {
            int fewest = table[rank + 1][rest];
            for (int taken = count; taken > 0; taken--) {
                int smaller = rest - taken * value;
                if (smaller >= 0 && table[rank][smaller] + taken == fewest) {
                    return taken;
                }
            }
            return 0;
        }
    }

    /** The script buffer, and the commands of the latest script that was parsed. */
    private static final class Script {
        private final char[] signs = new char[MAX_SCRIPT];
        private int length;
        /** The next sign to read; where parsing fails, it stays on the sign that cannot stand there. */
        private int position;
        private int commands;
        // A command has more than one sign, so these rows are long enough.
        private final int[] verb = new int[MAX_SCRIPT];
        private final int[] first = new int[MAX_SCRIPT];
        private final int[] second = new int[MAX_SCRIPT];

        private void append(char sign) {
            signs[length] = sign;
            length++;
        }

        private boolean parse() {
            position = 0;
            commands = 0;
            while (commands < MAX_SCRIPT && readCommand()) {
                commands++;
                if (position == length) {
                    return true;
                }
                if (!readSign(';')) {
                    return false;
                }
            }
            return false;
        }

        private boolean readCommand() {
            second[commands] = 0;
            if (!readVerb()) {
                return false;
            }
            switch (verb[commands]) {
                case DIE:
                    return readNumber() && readSign(' ') && readSecond();
                case STRIKE:
                    return readDigit() && readSign(' ') && readSecond();
                case SHARPEN:
                    return readDigit();
                case YEAR:
                    return readYears();
                default:
                    return readNumber();
            }
        }

        private boolean readVerb() {
            int longest = 0;
            for (int candidate = 0; candidate < VERBS; candidate++) {
                String word = wordOf(candidate);
                int matched = signsMatching(word);
                if (matched == word.length()) {
                    verb[commands] = candidate;
                    position += matched;
                    return true;
                }
                longest = Math.max(longest, matched);
            }
            position += longest;
            return false;
        }

        private int signsMatching(String word) {
            int matched = 0;
            while (matched < word.length()
                    && position + matched < length
                    && signs[position + matched] == word.charAt(matched)) {
                matched++;
            }
            return matched;
        }

        private static String wordOf(int candidate) {
            switch (candidate) {
                case DIE:
                    return "die ";
                case SHARPEN:
                    return "sharpen ";
                case LEAF:
                    return "leaf ";
                case STRIKE:
                    return "strike ";
                case YEAR:
                    return "year";
                case RECALL:
                    return "recall ";
                default:
                    return "pay ";
            }
        }

        private boolean readYears() {
            if (!readSign(' ')) {
                first[commands] = 1;
                return true;
            }
            return readNumber();
        }

        private boolean readNumber() {
            if (!readDigit()) {
                return false;
            }
            if (isAtDigit()) {
                first[commands] = 10 * first[commands] + takeDigit();
            }
            return true;
        }

        private boolean readDigit() {
            if (!isAtDigit()) {
                return false;
            }
            first[commands] = takeDigit();
            return true;
        }

        private boolean readSecond() {
            if (!isAtDigit()) {
                return false;
            }
            second[commands] = takeDigit();
            return true;
        }

        private boolean isAtDigit() {
            return position < length && signs[position] >= '0' && signs[position] <= '9';
        }

        private int takeDigit() {
            int digit = signs[position] - '0';
            position++;
            return digit;
        }

        private boolean readSign(char sign) {
            if (position >= length || signs[position] != sign) {
                return false;
            }
            position++;
            return true;
        }
    }
}
