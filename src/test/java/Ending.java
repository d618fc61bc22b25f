import java.lang.reflect.InvocationTargetException;
import java.lang.reflect.Method;
import java.util.Arrays;

/**
 * Runs the test program that its first argument names, with the others. A call that does not end
 * is a fault, too: it must fail the program, not keep it waiting.
 */
public final class Ending {
    /** Many times what the longest test program takes, on a slow machine, too. */
    private static final long MOST_SECONDS = 300;

    private Ending() {
    }

    public static void main(String[] args) throws Throwable {
        Thread program = Thread.currentThread();
        Thread watch = new Thread(() -> stop(program));
        watch.setDaemon(true);
        watch.start();
        Method main = Class.forName(args[0]).getMethod("main", String[].class);
        try {
            main.invoke(null, (Object) Arrays.copyOfRange(args, 1, args.length));
        } catch (InvocationTargetException e) {
            throw e.getCause();
        }
    }

    private static void stop(Thread program) {
        try {
            Thread.sleep(MOST_SECONDS * 1000);
        } catch (InterruptedException e) {
            // Nothing interrupts it; if something did, the program would only be stopped early.
        }
        System.out.println("did not end in " + MOST_SECONDS + " seconds, stopped in:");
        for (StackTraceElement call : program.getStackTrace()) {
            System.out.println("    " + call);
        }
        System.out.flush();
        Runtime.getRuntime().halt(1);
    }
}
