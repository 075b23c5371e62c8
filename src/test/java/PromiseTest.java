public final class PromiseTest { public static void main(String[] a) { } }
