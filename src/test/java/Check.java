import java.util.ArrayList;
import java.util.List;

/** What the tests share: due answers, refused calls, and all that can be seen of an object. */
final class Check {
    /** Calls on an object. */
    interface Run {
        void on(DotGossip x);
    }

    /** One call that answers; booleans count 1 or 0. */
    interface Question {
        long ask(DotGossip x);
    }

    // A fresh object answers only so many questions, so that none goes beyond its 512 calls.
    private static final int QUESTIONS_AN_OBJECT = 300;

    private static int wrong = 0;

    private Check() {
    }

    static void due(String call, long got, long want) {
        if (got != want) {
            wrong++;
            System.out.println(call + " answered " + got + ", due is " + want);
        }
    }

    static void due(String call, boolean got, boolean want) {
        due(call, got ? 1 : 0, want ? 1 : 0);
    }

    static void end() {
        System.out.println(wrong == 0 ? "all answers are as due" : wrong + " answers are not as due");
        if (wrong != 0) {
            System.exit(1);
        }
    }

    /** The call behind a run throws nothing. */
    static void allowed(String call, Run before, Run last) {
        DotGossip x = new DotGossip();
        before.on(x);
        Class<?> thrown = thrownBy(last, x);
        if (thrown != null) {
            wrong++;
            System.out.println(call + " threw " + thrown + ", due is an answer");
        }
    }

    /** The call behind a run throws IllegalArgumentException and changes nothing. */
    static void illegal(String call, Run before, Run last) {
        refused(call, before, last, IllegalArgumentException.class);
    }

    /** The call behind a run throws just this exception and changes nothing. */
    static void refused(String call, Run before, Run last, Class<? extends RuntimeException> due) {
        DotGossip x = new DotGossip();
        before.on(x);
        Class<?> thrown = thrownBy(last, x);
        if (thrown != due) {
            wrong++;
            System.out.println(call + " threw " + thrown + ", due is " + due);
            return;
        }
        Run both = y -> {
            before.on(y);
            thrownBy(last, y);
        };
        alike(call + " changes nothing", both, before);
    }

    /** Nothing that can be seen tells the objects behind two runs apart. */
    static void alike(String what, Run one, Run two) {
        if (!seen(one).equals(seen(two))) {
            wrong++;
            System.out.println(what + ": what is seen is not alike");
        }
    }

    static void unlike(String what, Run one, Run two) {
        if (seen(one).equals(seen(two))) {
            wrong++;
            System.out.println(what + ": what is seen is alike");
        }
    }

    private static Class<?> thrownBy(Run last, DotGossip x) {
        try {
            last.on(x);
        } catch (RuntimeException e) {
            return e.getClass();
        }
        return null;
    }

    private static List<Long> seen(Run run) {
        DotGossip x = new DotGossip();
        run.on(x);
        int replicas = x.message(0, DotGossip.NONE);
        int messages = x.message(0, -2);
        List<Question> wire = aboutMessages(replicas, messages);
        List<Question> state = aboutReplicas(replicas);
        List<Long> answers = new ArrayList<>();
        answers.add((long) replicas);
        answers.add((long) messages);
        answer(run, wire, answers);
        answer(run, state, answers);
        // What a message has beside its vector shows only where it is delivered.
        Run delivered = y -> {
            run.on(y);
            for (int k = 0; k < messages; k++) {
                y.deliver(0);
            }
        };
        answer(delivered, state, answers);
        return answers;
    }

    private static void answer(Run run, List<Question> questions, List<Long> answers) {
        DotGossip x = null;
        for (int k = 0; k < questions.size(); k++) {
            if (k % QUESTIONS_AN_OBJECT == 0) {
                x = new DotGossip();
                run.on(x);
            }
            answers.add(questions.get(k).ask(x));
        }
    }

    private static List<Question> aboutMessages(int replicas, int messages) {
        List<Question> questions = new ArrayList<>();
        for (int m = 0; m < messages; m++) {
            for (int w = 0; w < replicas + 2; w++) {
                int i = m;
                int what = w;
                questions.add(x -> x.message(i, what));
            }
        }
        return questions;
    }

    private static List<Question> aboutReplicas(int replicas) {
        List<Question> questions = new ArrayList<>();
        for (int r = 0; r < replicas; r++) {
            int replica = r;
            for (int k = 0; k < 4; k++) {
                int which = k;
                questions.add(x -> x.size(replica, which));
                questions.add(x -> x.values(replica, which));
                questions.add(x -> x.total(replica, which));
                aboutDots(questions, replicas, replica, which);
            }
            for (int o = 0; o < replicas; o++) {
                int other = o;
                questions.add(x -> x.vector(replica, other));
                questions.add(x -> x.same(replica, other) ? 1 : 0);
            }
        }
        return questions;
    }

    private static void aboutDots(List<Question> questions, int replicas, int replica, int which) {
        for (int d = 0; d < replicas; d++) {
            int i = d;
            for (int e = 0; e < 16; e++) {
                int element = e;
                questions.add(x -> x.contains(replica, which, element) ? 1 : 0);
                questions.add(x -> x.dot(replica, which, element, i, 0));
                questions.add(x -> x.dot(replica, which, element, i, 1));
            }
            for (int w = 0; w < 3; w++) {
                int what = w;
                questions.add(x -> x.value(replica, which, i, what));
            }
        }
    }
}
