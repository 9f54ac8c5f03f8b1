import java.util.ArrayList;
import java.util.EnumMap;
import java.util.List;
import java.util.Map;
import java.util.Random;
import java.util.Set;
import java.util.TreeSet;

/**
 * Which of BAD, STATE, FULL, NONE, NO a call may answer: in runs of 512 calls each is answered that the call's own
 * sentence names, no other, BAD (NO of rate) just where a number is not as told, and all else within its bounds.
 */
public final class AnswersTest {
    private static final int RUNS = 1500;
    private static final int[] FAR = {Integer.MIN_VALUE, Integer.MAX_VALUE, -1000000, -9, 32, 256, 65536};
    private static final Checks C = new Checks();
    private static final Map<Call, Set<Long>> REFUSALS = new EnumMap<>(Call.class);

    public static void main(String[] args) {
        for (Call call : Call.values()) {
            REFUSALS.put(call, new TreeSet<>());
        }
        for (int run = 0; run < RUNS; run++) {
            run(new Random(run));
        }
        growBehindTheLastDay();
        for (Call call : Call.values()) {
            C.holds(call + " answers the refusals " + REFUSALS.get(call) + ", due are " + call.refusals,
                    REFUSALS.get(call).equals(call.refusals));
        }
        faults();
        C.end("AnswersTest");
    }

    private static void run(Random random) {
        Stage stage = Stage.values()[random.nextInt(Stage.values().length)];
        ShadeVotes x = stage.make();
        // Where one call in thirty tells all anew, little comes together: most runs leave that out.
        boolean mayTell = random.nextInt(4) == 0;
        List<Call> calls = new ArrayList<>(List.of(Call.values()));
        calls.remove(Call.COMMUNE);
        int used = stage.calls();
        while (true) {
            Call call = mayTell && random.nextInt(40) == 0 ? Call.COMMUNE : calls.get(random.nextInt(calls.size()));
            used += cost(call);
            if (used > Eyes.CALLS) {
                return;
            }
            if (call == Call.COMMUNE) {
                communes(x);
                continue;
            }
            int[] numbers = new int[call.told.length];
            for (int n = 0; n < numbers.length; n++) {
                numbers[n] = number(random, call.told[n], x);
            }
            answers(x, call, numbers);
        }
    }

    /** The call itself, and those that tell, when its numbers are chosen and when they are judged, what there is. */
    private static int cost(Call call) {
        int cost = call == Call.COMMUNE ? 3 : 1;
        for (Told told : call.told) {
            cost += 2 * told.calls();
        }
        return cost;
    }

    private static int number(Random random, Told told, ShadeVotes x) {
        int least = told.least();
        int most = told.most(x);
        int chance = random.nextInt(40);
        if (chance == 0) {
            return FAR[random.nextInt(FAR.length)];
        }
        return chance == 1 || most < least ? least - 1 : chance == 2 ? most + 1
                : least + random.nextInt(most - least + 1);
    }

    private static void answers(ShadeVotes x, Call call, int... numbers) {
        boolean isToldRight = call.isToldRight(x, numbers);
        long answer = call.on(x, numbers);
        boolean isWithin = answer >= call.least && answer <= call.most;
        if (isToldRight) {
            C.holds(call.written(numbers) + " is told right, answered " + answer,
                    isWithin || (answer != call.bad() && call.refusals.contains(answer)));
        } else {
            C.due(call.written(numbers), answer, call.bad());
        }
        if (!isWithin) {
            REFUSALS.get(call).add(answer);
        }
    }

    /** How many items, or a place of the text or its length. */
    private static void communes(ShadeVotes x) {
        int letters = x.count(4);
        long answer = x.commune();
        C.holds("commune() of " + letters + " letters answered " + answer,
                (answer >= 0 && answer <= 14) || (answer <= -10 && answer >= -10 - letters));
        C.due("letters behind commune()", x.count(4), answer >= 0 ? 0 : letters);
    }

    /** The only refusal that 512 calls do not come to. */
    private static void growBehindTheLastDay() {
        ShadeVotes x = new ShadeVotes();
        for (int i = 0; i < 1005; i++) {
            answers(x, Call.GROWS);
        }
    }

    private static void faults() {
        Set<Integer> answers = new TreeSet<>();
        for (String text : new String[] {"", "x", "p", "p0 1;", "s7;" + " ".repeat(196) + "g", "s7" + " ".repeat(198)}) {
            ShadeVotes x = new ShadeVotes();
            Checks.type(x, text);
            answers.add(x.commune());
        }
        C.holds("commune() answers " + answers, answers.equals(Set.of(0, -10, -11, 1, -209, -210)));
    }
}
